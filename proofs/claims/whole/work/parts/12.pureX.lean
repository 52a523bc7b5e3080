/-! walks by program: helpers, the world, the methods without state -/
theorem am_split {c A B : Prop} (h1 : c → A) (h2 : ¬ c → B) : am_br c A B := ⟨h1, h2⟩
theorem am_call {S : am_Sg} {as : List Value} {ab ab1 : List am_Cl} {v : Option Value} {K : Option Value → List am_Cl → Prop} (h : am_Ev S as ab v ab1) (k : K v ab1) : ∃ (v : Option Value) (ab1 : List am_Cl), am_Ev S as ab v ab1 ∧ K v ab1 := ⟨v, ab1, h, k⟩
theorem am_ri {S : am_Sg} {r : Option Value} {x : Int32} {ab ab' : List am_Cl} {ty : FieldType} (h1 : r = some (.int x)) (h2 : ab' = ab) (h3 : am_r S = some ty) (h4 : narrow ty (.int x) = .int x) : r = some (.int x) ∧ ab' = ab ∧ ∃ ty, am_r S = some ty ∧ narrow ty (.int x) = .int x := ⟨h1, h2, ty, h3, h4⟩
theorem am_rv {S : am_Sg} {ab ab' : List am_Cl} (h2 : ab' = ab) (h3 : am_r S = none) : (none : Option Value) = none ∧ ab' = ab ∧ am_r S = none := ⟨rfl, h2, h3⟩
theorem zo_ite {c : Prop} {h : Decidable c} {A B : Int32} (h1 : A = 0 ∨ A = 1) (h2 : B = 0 ∨ B = 1) : @ite Int32 c h A B = 0 ∨ @ite Int32 c h A B = 1 := by
  cases h with
  | isTrue q => exact h1
  | isFalse q => exact h2
theorem am_ra {S : am_Sg} {r : Option Value} {v : Value} {ab ab' : List am_Cl} {nm : String} (h1 : r = some v) (h2 : ab' = ab) (h3 : am_r S = some (.object nm)) : r = some v ∧ ab' = ab ∧ ∃ nm, am_r S = some (.object nm) := ⟨h1, h2, nm, h3⟩
theorem am_nz {x : Int32} (h : x = 0 ∨ x = 1) : narrow .boolean (.int x) = .int x := by rcases h with rfl | rfl <;> rfl
def wZ (j : Nat → Int32) (c : Nat → Nat → Int32) : List am_Cl := [.inr (8, [.int (j 0), .ref 31, .ref 32, .ref 33, .ref 34, .int (j 1), .int (j 2), .ref 35, .ref 36, .ref 37, .ref 38, .ref 39, .ref 40, .ref 41, .int (j 3), .ref 42, .ref 43, .int (j 4), .int (j 5), .ref 44, .ref 45, .ref 46, .ref 47, .ref 48, .ref 49, .ref 50, .ref 51, .int (j 6)]), .inl (false, 20, c 0), .inl (false, 20, c 1), .inl (false, 20, c 2), .inl (false, 20, c 3), .inl (false, 20, c 4), .inl (false, 20, c 5), .inl (false, 20, c 6), .inl (false, 20, c 7), .inl (false, 21, c 8), .inl (false, 21, c 9), .inl (false, 21, c 10), .inl (false, 256, c 11), .inl (true, 256, c 12), .inl (false, 20, c 13), .inl (false, 64, c 14), .inl (false, 32, c 15), .inl (false, 80, c 16), .inl (false, 2, c 17), .inl (false, 2, c 18), .inl (false, 2, c 19), .inl (true, 2, c 20)]
def wX (i : Nat → Int32) (a : Nat → Nat → Int32) (tl : List am_Cl) : List am_Cl := .inr (7, [.ref 1, .ref 8, .ref 17, .ref 15, .ref 18, .ref 20, .ref 22, .ref 26, .int (i 0)]) :: .inr (4, [.ref 2, .ref 3, .ref 4, .ref 5, .ref 6, .ref 7, .int (i 1), .int (i 2)]) :: .inl (false, 20, a 0) :: .inl (false, 20, a 1) :: .inl (false, 20, a 2) :: .inl (false, 20, a 3) :: .inl (false, 21, a 4) :: .inl (false, 20, a 5) :: .inr (4, [.ref 9, .ref 10, .ref 11, .ref 12, .ref 13, .ref 14, .int (i 3), .int (i 4)]) :: .inl (false, 20, a 6) :: .inl (false, 20, a 7) :: .inl (false, 20, a 8) :: .inl (false, 20, a 9) :: .inl (false, 21, a 10) :: .inl (false, 20, a 11) :: .inr (1, [.ref 16, .int (i 5)]) :: .inl (false, 256, a 12) :: .inr (5, [.ref 8, .ref 15, .int (i 6)]) :: .inr (0, [.ref 15, .int 31457203, .int 30404531, .int 28344243, .ref 19]) :: .inl (false, 256, a 13) :: .inr (2, [.ref 21, .int (i 7)]) :: .inl (false, 20, a 14) :: .inr (3, [.ref 20, .ref 23, .ref 24, .ref 25, .int (i 8), .int (i 9), .int (i 10), .int (i 11), .ref 15]) :: .inl (false, 32, a 15) :: .inl (false, 16, a 16) :: .inl (false, 40, a 17) :: .inr (6, [.ref 20, .ref 27, .ref 28, .ref 29, .int (i 12), .int (i 13), .int (i 14), .int (i 15), .ref 8]) :: .inl (false, 32, a 18) :: .inl (false, 16, a 19) :: .inl (false, 40, a 20) :: tl
noncomputable def sI (i : Nat → Int32) (v : Int32) (k : Nat) : Nat → Int32 := fun q => @Bool.rec (fun _ => Int32) (i q) v (Nat.beq q k)
noncomputable def sA (a : Nat → Nat → Int32) (f : Nat → Int32) (k : Nat) : Nat → Nat → Int32 := fun q => @Bool.rec (fun _ => Nat → Int32) (a q) f (Nat.beq q k)
noncomputable def rX_within (p q r : Int32) : Int32 := if p < q then (0 : Int32) else if r < p then (0 : Int32) else (1 : Int32)
set_option maxHeartbeats 4000000 in
set_option maxRecDepth 100000 in
theorem eX_within (p q r : Int32) (ab : List am_Cl) : am_Ev sX_within [.int p, .int q, .int r] ab (some (.int (rX_within p q r))) ab := by
  refine am_Ev_of cwX_within rfl rfl rfl (am_wp_T gdX_within 400 ?_)
  refine am_split (fun h1 => ?_) (fun h1 => ?_)
  · skip
    exact am_ri (S := sX_within) (by unfold rX_within; simp only [if_pos h1]; try rfl) rfl rfl rfl
  · skip
    refine am_split (fun h2 => ?_) (fun h2 => ?_)
    · skip
      exact am_ri (S := sX_within) (by unfold rX_within; simp only [if_neg h1, if_pos h2]; try rfl) rfl rfl rfl
    · skip
      exact am_ri (S := sX_within) (by unfold rX_within; simp only [if_neg h1, if_neg h2]; try rfl) rfl rfl rfl
theorem zoX_within (p q r : Int32) : rX_within p q r = 0 ∨ rX_within p q r = 1 := by
  unfold rX_within
  repeat' (first | with_reducible refine zo_ite ?_ ?_ | with_reducible exact Or.inl rfl | with_reducible exact Or.inr rfl)
noncomputable def rF_isShort (p : Int32) : Int32 := (rX_within p (-2048 : Int32) (2047 : Int32))
set_option maxHeartbeats 4000000 in
set_option maxRecDepth 100000 in
theorem eF_isShort (p : Int32) (ab : List am_Cl) : am_Ev sF_isShort [.int p] ab (some (.int (rF_isShort p))) ab := by
  refine am_Ev_of cwF_isShort rfl rfl rfl (am_wp_T gdF_isShort 400 ?_)
  refine am_call (eX_within p (-2048 : Int32) (2047 : Int32) _) ?_
  exact am_ri (S := sF_isShort) rfl rfl rfl (am_nz (zoX_within p (-2048 : Int32) (2047 : Int32)))
theorem zoF_isShort (p : Int32) : rF_isShort p = 0 ∨ rF_isShort p = 1 := by
  unfold rF_isShort
  repeat' (first | with_reducible refine zo_ite ?_ ?_ | with_reducible exact zoX_within .. | with_reducible exact Or.inl rfl | with_reducible exact Or.inr rfl)
noncomputable def rF_threeRegisters (p q r s t : Int32) : Int32 := ((((((p <<< ((25 : Int32) &&& 31)) ||| (t <<< ((20 : Int32) &&& 31))) ||| (s <<< ((15 : Int32) &&& 31))) ||| (q <<< ((12 : Int32) &&& 31))) ||| (r <<< ((7 : Int32) &&& 31))) ||| (51 : Int32))
set_option maxHeartbeats 4000000 in
set_option maxRecDepth 100000 in
theorem eF_threeRegisters (p q r s t : Int32) (ab : List am_Cl) : am_Ev sF_threeRegisters [.int p, .int q, .int r, .int s, .int t] ab (some (.int (rF_threeRegisters p q r s t))) ab := by
  refine am_Ev_of cwF_threeRegisters rfl rfl rfl (am_wp_T gdF_threeRegisters 400 ?_)
  exact am_ri (S := sF_threeRegisters) rfl rfl rfl rfl
noncomputable def rF_withShort (p q r s t : Int32) : Int32 := (((((t <<< ((20 : Int32) &&& 31)) ||| (s <<< ((15 : Int32) &&& 31))) ||| (p <<< ((12 : Int32) &&& 31))) ||| (r <<< ((7 : Int32) &&& 31))) ||| q)
set_option maxHeartbeats 4000000 in
set_option maxRecDepth 100000 in
theorem eF_withShort (p q r s t : Int32) (ab : List am_Cl) : am_Ev sF_withShort [.int p, .int q, .int r, .int s, .int t] ab (some (.int (rF_withShort p q r s t))) ab := by
  refine am_Ev_of cwF_withShort rfl rfl rfl (am_wp_T gdF_withShort 400 ?_)
  exact am_ri (S := sF_withShort) rfl rfl rfl rfl
noncomputable def rF_branch (p q r s : Int32) : Int32 := ((((((((((s >>> ((12 : Int32) &&& 31)) &&& (1 : Int32)) <<< ((6 : Int32) &&& 31)) ||| ((s >>> ((5 : Int32) &&& 31)) &&& (63 : Int32))) <<< ((25 : Int32) &&& 31)) ||| (r <<< ((20 : Int32) &&& 31))) ||| (q <<< ((15 : Int32) &&& 31))) ||| (p <<< ((12 : Int32) &&& 31))) ||| (((((s >>> ((1 : Int32) &&& 31)) &&& (15 : Int32)) <<< ((1 : Int32) &&& 31)) ||| ((s >>> ((11 : Int32) &&& 31)) &&& (1 : Int32))) <<< ((7 : Int32) &&& 31))) ||| (99 : Int32))
set_option maxHeartbeats 4000000 in
set_option maxRecDepth 100000 in
theorem eF_branch (p q r s : Int32) (ab : List am_Cl) : am_Ev sF_branch [.int p, .int q, .int r, .int s] ab (some (.int (rF_branch p q r s))) ab := by
  refine am_Ev_of cwF_branch rfl rfl rfl (am_wp_T gdF_branch 400 ?_)
  exact am_ri (S := sF_branch) rfl rfl rfl rfl
noncomputable def rF_jump (p q : Int32) : Int32 := (((((((((q >>> ((20 : Int32) &&& 31)) &&& (1 : Int32)) <<< ((11 : Int32) &&& 31)) ||| (((q >>> ((1 : Int32) &&& 31)) &&& (1023 : Int32)) <<< ((1 : Int32) &&& 31))) ||| ((q >>> ((11 : Int32) &&& 31)) &&& (1 : Int32))) <<< ((20 : Int32) &&& 31)) ||| (((q >>> ((12 : Int32) &&& 31)) &&& (255 : Int32)) <<< ((12 : Int32) &&& 31))) ||| (p <<< ((7 : Int32) &&& 31))) ||| (111 : Int32))
set_option maxHeartbeats 4000000 in
set_option maxRecDepth 100000 in
theorem eF_jump (p q : Int32) (ab : List am_Cl) : am_Ev sF_jump [.int p, .int q] ab (some (.int (rF_jump p q))) ab := by
  refine am_Ev_of cwF_jump rfl rfl rfl (am_wp_T gdF_jump 400 ?_)
  exact am_ri (S := sF_jump) rfl rfl rfl rfl
noncomputable def rF_isLong (p : Int32) : Int32 := if (p &&& (3 : Int32)) = (3 : Int32) then (1 : Int32) else (0 : Int32)
set_option maxHeartbeats 4000000 in
set_option maxRecDepth 100000 in
theorem eF_isLong (p : Int32) (ab : List am_Cl) : am_Ev sF_isLong [.int p] ab (some (.int (rF_isLong p))) ab := by
  refine am_Ev_of cwF_isLong rfl rfl rfl (am_wp_T gdF_isLong 400 ?_)
  refine am_split (fun h1 => ?_) (fun h1 => ?_)
  · skip
    exact am_ri (S := sF_isLong) (by unfold rF_isLong; simp only [if_pos h1]; try rfl) rfl rfl rfl
  · skip
    exact am_ri (S := sF_isLong) (by unfold rF_isLong; simp only [if_neg h1]; try rfl) rfl rfl rfl
theorem zoF_isLong (p : Int32) : rF_isLong p = 0 ∨ rF_isLong p = 1 := by
  unfold rF_isLong
  repeat' (first | with_reducible refine zo_ite ?_ ?_ | with_reducible exact Or.inl rfl | with_reducible exact Or.inr rfl)
noncomputable def rF_sizeOf (p : Int32) : Int32 := if (rF_isLong p) = (0 : Int32) then (2 : Int32) else (4 : Int32)
set_option maxHeartbeats 4000000 in
set_option maxRecDepth 100000 in
theorem eF_sizeOf (p : Int32) (ab : List am_Cl) : am_Ev sF_sizeOf [.int p] ab (some (.int (rF_sizeOf p))) ab := by
  refine am_Ev_of cwF_sizeOf rfl rfl rfl (am_wp_T gdF_sizeOf 400 ?_)
  refine am_call (eF_isLong p _) ?_
  refine am_split (fun h1 => ?_) (fun h1 => ?_)
  · skip
    exact am_ri (S := sF_sizeOf) (by unfold rF_sizeOf; simp only [if_pos h1]; try rfl) rfl rfl rfl
  · skip
    exact am_ri (S := sF_sizeOf) (by unfold rF_sizeOf; simp only [if_neg h1]; try rfl) rfl rfl rfl
noncomputable def rF_lowRegister (p : Int32) : Int32 := ((Int32.toUInt32 p >>> (Int32.toUInt32 (7 : Int32) &&& Int32.toUInt32 31)).toInt32 &&& (31 : Int32))
set_option maxHeartbeats 4000000 in
set_option maxRecDepth 100000 in
theorem eF_lowRegister (p : Int32) (ab : List am_Cl) : am_Ev sF_lowRegister [.int p] ab (some (.int (rF_lowRegister p))) ab := by
  refine am_Ev_of cwF_lowRegister rfl rfl rfl (am_wp_T gdF_lowRegister 400 ?_)
  exact am_ri (S := sF_lowRegister) rfl rfl rfl rfl
noncomputable def rF_middleRegister (p : Int32) : Int32 := ((Int32.toUInt32 p >>> (Int32.toUInt32 (15 : Int32) &&& Int32.toUInt32 31)).toInt32 &&& (31 : Int32))
set_option maxHeartbeats 4000000 in
set_option maxRecDepth 100000 in
theorem eF_middleRegister (p : Int32) (ab : List am_Cl) : am_Ev sF_middleRegister [.int p] ab (some (.int (rF_middleRegister p))) ab := by
  refine am_Ev_of cwF_middleRegister rfl rfl rfl (am_wp_T gdF_middleRegister 400 ?_)
  exact am_ri (S := sF_middleRegister) rfl rfl rfl rfl
noncomputable def rF_highRegister (p : Int32) : Int32 := ((Int32.toUInt32 p >>> (Int32.toUInt32 (20 : Int32) &&& Int32.toUInt32 31)).toInt32 &&& (31 : Int32))
set_option maxHeartbeats 4000000 in
set_option maxRecDepth 100000 in
theorem eF_highRegister (p : Int32) (ab : List am_Cl) : am_Ev sF_highRegister [.int p] ab (some (.int (rF_highRegister p))) ab := by
  refine am_Ev_of cwF_highRegister rfl rfl rfl (am_wp_T gdF_highRegister 400 ?_)
  exact am_ri (S := sF_highRegister) rfl rfl rfl rfl
noncomputable def rF_shortRegister (p : Int32) : Int32 := ((Int32.toUInt32 p >>> (Int32.toUInt32 (2 : Int32) &&& Int32.toUInt32 31)).toInt32 &&& (31 : Int32))
set_option maxHeartbeats 4000000 in
set_option maxRecDepth 100000 in
theorem eF_shortRegister (p : Int32) (ab : List am_Cl) : am_Ev sF_shortRegister [.int p] ab (some (.int (rF_shortRegister p))) ab := by
  refine am_Ev_of cwF_shortRegister rfl rfl rfl (am_wp_T gdF_shortRegister 400 ?_)
  exact am_ri (S := sF_shortRegister) rfl rfl rfl rfl
noncomputable def rF_shortNumber (p : Int32) : Int32 := if (p &&& (4096 : Int32)) = (0 : Int32) then ((Int32.toUInt32 p >>> (Int32.toUInt32 (2 : Int32) &&& Int32.toUInt32 31)).toInt32 &&& (31 : Int32)) else (((Int32.toUInt32 p >>> (Int32.toUInt32 (2 : Int32) &&& Int32.toUInt32 31)).toInt32 &&& (31 : Int32)) - (32 : Int32))
set_option maxHeartbeats 4000000 in
set_option maxRecDepth 100000 in
theorem eF_shortNumber (p : Int32) (ab : List am_Cl) : am_Ev sF_shortNumber [.int p] ab (some (.int (rF_shortNumber p))) ab := by
  refine am_Ev_of cwF_shortNumber rfl rfl rfl (am_wp_T gdF_shortNumber 400 ?_)
  refine am_split (fun h1 => ?_) (fun h1 => ?_)
  · skip
    exact am_ri (S := sF_shortNumber) (by unfold rF_shortNumber; simp only [if_pos h1]; try rfl) rfl rfl rfl
  · skip
    exact am_ri (S := sF_shortNumber) (by unfold rF_shortNumber; simp only [if_neg h1]; try rfl) rfl rfl rfl
noncomputable def rF_branchOffset (p : Int32) : Int32 := (((((p >>> ((31 : Int32) &&& 31)) <<< ((12 : Int32) &&& 31)) ||| (((Int32.toUInt32 p >>> (Int32.toUInt32 (7 : Int32) &&& Int32.toUInt32 31)).toInt32 &&& (1 : Int32)) <<< ((11 : Int32) &&& 31))) ||| (((Int32.toUInt32 p >>> (Int32.toUInt32 (25 : Int32) &&& Int32.toUInt32 31)).toInt32 &&& (63 : Int32)) <<< ((5 : Int32) &&& 31))) ||| (((Int32.toUInt32 p >>> (Int32.toUInt32 (8 : Int32) &&& Int32.toUInt32 31)).toInt32 &&& (15 : Int32)) <<< ((1 : Int32) &&& 31)))
set_option maxHeartbeats 4000000 in
set_option maxRecDepth 100000 in
theorem eF_branchOffset (p : Int32) (ab : List am_Cl) : am_Ev sF_branchOffset [.int p] ab (some (.int (rF_branchOffset p))) ab := by
  refine am_Ev_of cwF_branchOffset rfl rfl rfl (am_wp_T gdF_branchOffset 400 ?_)
  exact am_ri (S := sF_branchOffset) rfl rfl rfl rfl
noncomputable def rF_jumpOffset (p : Int32) : Int32 := (((((p >>> ((31 : Int32) &&& 31)) <<< ((20 : Int32) &&& 31)) ||| (((Int32.toUInt32 p >>> (Int32.toUInt32 (12 : Int32) &&& Int32.toUInt32 31)).toInt32 &&& (255 : Int32)) <<< ((12 : Int32) &&& 31))) ||| (((Int32.toUInt32 p >>> (Int32.toUInt32 (20 : Int32) &&& Int32.toUInt32 31)).toInt32 &&& (1 : Int32)) <<< ((11 : Int32) &&& 31))) ||| (((Int32.toUInt32 p >>> (Int32.toUInt32 (21 : Int32) &&& Int32.toUInt32 31)).toInt32 &&& (1023 : Int32)) <<< ((1 : Int32) &&& 31)))
set_option maxHeartbeats 4000000 in
set_option maxRecDepth 100000 in
theorem eF_jumpOffset (p : Int32) (ab : List am_Cl) : am_Ev sF_jumpOffset [.int p] ab (some (.int (rF_jumpOffset p))) ab := by
  refine am_Ev_of cwF_jumpOffset rfl rfl rfl (am_wp_T gdF_jumpOffset 400 ?_)
  exact am_ri (S := sF_jumpOffset) rfl rfl rfl rfl
noncomputable def rF_arithmeticKindOf (p q : Int32) : Int32 := if p = (32 : Int32) then if q = (0 : Int32) then (1 : Int32) else (-1 : Int32) else if p = (0 : Int32) then if q = (0 : Int32) then (0 : Int32) else if q = (6 : Int32) then (3 : Int32) else if q = (7 : Int32) then (2 : Int32) else (-1 : Int32) else (-1 : Int32)
set_option maxHeartbeats 4000000 in
set_option maxRecDepth 100000 in
theorem eF_arithmeticKindOf (p q : Int32) (ab : List am_Cl) : am_Ev sF_arithmeticKindOf [.int p, .int q] ab (some (.int (rF_arithmeticKindOf p q))) ab := by
  refine am_Ev_of cwF_arithmeticKindOf rfl rfl rfl (am_wp_T gdF_arithmeticKindOf 400 ?_)
  refine am_split (fun h1 => ?_) (fun h1 => ?_)
  · skip
    refine am_split (fun h2 => ?_) (fun h2 => ?_)
    · skip
      exact am_ri (S := sF_arithmeticKindOf) (by unfold rF_arithmeticKindOf; simp only [if_pos h1, if_pos h2]; try rfl) rfl rfl rfl
    · skip
      exact am_ri (S := sF_arithmeticKindOf) (by unfold rF_arithmeticKindOf; simp only [if_pos h1, if_neg h2]; try rfl) rfl rfl rfl
  · skip
    refine am_split (fun h3 => ?_) (fun h3 => ?_)
    · skip
      refine am_split (fun h4 => ?_) (fun h4 => ?_)
      · skip
        exact am_ri (S := sF_arithmeticKindOf) (by unfold rF_arithmeticKindOf; simp only [if_neg h1, if_pos h3, if_pos h4]; try rfl) rfl rfl rfl
      · skip
        refine am_split (fun h5 => ?_) (fun h5 => ?_)
        · skip
          exact am_ri (S := sF_arithmeticKindOf) (by unfold rF_arithmeticKindOf; simp only [if_neg h1, if_pos h3, if_neg h4, if_pos h5]; try rfl) rfl rfl rfl
        · skip
          refine am_split (fun h6 => ?_) (fun h6 => ?_)
          · skip
            exact am_ri (S := sF_arithmeticKindOf) (by unfold rF_arithmeticKindOf; simp only [if_neg h1, if_pos h3, if_neg h4, if_neg h5, if_pos h6]; try rfl) rfl rfl rfl
          · skip
            exact am_ri (S := sF_arithmeticKindOf) (by unfold rF_arithmeticKindOf; simp only [if_neg h1, if_pos h3, if_neg h4, if_neg h5, if_neg h6]; try rfl) rfl rfl rfl
    · skip
      exact am_ri (S := sF_arithmeticKindOf) (by unfold rF_arithmeticKindOf; simp only [if_neg h1, if_neg h3]; try rfl) rfl rfl rfl
noncomputable def rF_branchKindOf (p : Int32) : Int32 := if p = (0 : Int32) then (8 : Int32) else if p = (1 : Int32) then (9 : Int32) else if p = (2 : Int32) then (-1 : Int32) else if p = (3 : Int32) then (-1 : Int32) else if p = (4 : Int32) then (10 : Int32) else (-1 : Int32)
set_option maxHeartbeats 4000000 in
set_option maxRecDepth 100000 in
theorem eF_branchKindOf (p : Int32) (ab : List am_Cl) : am_Ev sF_branchKindOf [.int p] ab (some (.int (rF_branchKindOf p))) ab := by
  refine am_Ev_of cwF_branchKindOf rfl rfl rfl (am_wp_T gdF_branchKindOf 400 ?_)
  refine am_split (fun h1 => ?_) (fun h1 => ?_)
  · skip
    exact am_ri (S := sF_branchKindOf) (by unfold rF_branchKindOf; simp only [if_pos h1]; try rfl) rfl rfl rfl
  · skip
    refine am_split (fun h2 => ?_) (fun h2 => ?_)
    · skip
      exact am_ri (S := sF_branchKindOf) (by unfold rF_branchKindOf; simp only [if_neg h1, if_pos h2]; try rfl) rfl rfl rfl
    · skip
      refine am_split (fun h3 => ?_) (fun h3 => ?_)
      · skip
        exact am_ri (S := sF_branchKindOf) (by unfold rF_branchKindOf; simp only [if_neg h1, if_neg h2, if_pos h3]; try rfl) rfl rfl rfl
      · skip
        refine am_split (fun h4 => ?_) (fun h4 => ?_)
        · skip
          exact am_ri (S := sF_branchKindOf) (by unfold rF_branchKindOf; simp only [if_neg h1, if_neg h2, if_neg h3, if_pos h4]; try rfl) rfl rfl rfl
        · skip
          refine am_split (fun h5 => ?_) (fun h5 => ?_)
          · skip
            exact am_ri (S := sF_branchKindOf) (by unfold rF_branchKindOf; simp only [if_neg h1, if_neg h2, if_neg h3, if_neg h4, if_pos h5]; try rfl) rfl rfl rfl
          · skip
            exact am_ri (S := sF_branchKindOf) (by unfold rF_branchKindOf; simp only [if_neg h1, if_neg h2, if_neg h3, if_neg h4, if_neg h5]; try rfl) rfl rfl rfl
noncomputable def rF_plainFits (p q r s t : Int32) : Int32 := if p = (0 : Int32) then if (rX_within q (0 : Int32) t) = (0 : Int32) then (0 : Int32) else if (rX_within r (0 : Int32) t) = (0 : Int32) then (0 : Int32) else if (rX_within s (0 : Int32) t) = (0 : Int32) then (0 : Int32) else (1 : Int32) else if p = (1 : Int32) then if (rX_within q (0 : Int32) t) = (0 : Int32) then (0 : Int32) else if (rX_within r (0 : Int32) t) = (0 : Int32) then (0 : Int32) else if (rX_within s (0 : Int32) t) = (0 : Int32) then (0 : Int32) else (1 : Int32) else if p = (2 : Int32) then if (rX_within q (0 : Int32) t) = (0 : Int32) then (0 : Int32) else if (rX_within r (0 : Int32) t) = (0 : Int32) then (0 : Int32) else if (rX_within s (0 : Int32) t) = (0 : Int32) then (0 : Int32) else (1 : Int32) else if p = (3 : Int32) then if (rX_within q (0 : Int32) t) = (0 : Int32) then (0 : Int32) else if (rX_within r (0 : Int32) t) = (0 : Int32) then (0 : Int32) else if (rX_within s (0 : Int32) t) = (0 : Int32) then (0 : Int32) else (1 : Int32) else if p = (4 : Int32) then if (rX_within q (0 : Int32) t) = (0 : Int32) then (0 : Int32) else if (rX_within r (0 : Int32) t) = (0 : Int32) then (0 : Int32) else if (rF_isShort s) = (0 : Int32) then (0 : Int32) else (1 : Int32) else if p = (5 : Int32) then if (rX_within q (0 : Int32) t) = (0 : Int32) then (0 : Int32) else if (rX_within r (0 : Int32) (1048575 : Int32)) = (0 : Int32) then (0 : Int32) else (1 : Int32) else if p = (6 : Int32) then if (rX_within q (0 : Int32) t) = (0 : Int32) then (0 : Int32) else if (rX_within r (0 : Int32) t) = (0 : Int32) then (0 : Int32) else if (rF_isShort s) = (0 : Int32) then (0 : Int32) else (1 : Int32) else if p = (7 : Int32) then if (rX_within q (0 : Int32) t) = (0 : Int32) then (0 : Int32) else if (rX_within r (0 : Int32) t) = (0 : Int32) then (0 : Int32) else if (rF_isShort s) = (0 : Int32) then (0 : Int32) else (1 : Int32) else if p = (8 : Int32) then (0 : Int32) else if p = (9 : Int32) then (0 : Int32) else if p = (10 : Int32) then (0 : Int32) else if p = (11 : Int32) then (0 : Int32) else if p = (12 : Int32) then (0 : Int32) else if p = (13 : Int32) then if (rX_within q (0 : Int32) t) = (0 : Int32) then (0 : Int32) else if (rX_within r (-32 : Int32) (31 : Int32)) = (0 : Int32) then (0 : Int32) else if q = (0 : Int32) then if r = (0 : Int32) then (1 : Int32) else (0 : Int32) else if r = (0 : Int32) then (0 : Int32) else (1 : Int32) else if p = (14 : Int32) then if (rX_within q (1 : Int32) t) = (0 : Int32) then (0 : Int32) else if (rX_within r (1 : Int32) t) = (0 : Int32) then (0 : Int32) else (1 : Int32) else (0 : Int32)
set_option maxHeartbeats 4000000 in
set_option maxRecDepth 100000 in
theorem eF_plainFits (p q r s t : Int32) (ab : List am_Cl) : am_Ev sF_plainFits [.int p, .int q, .int r, .int s, .int t] ab (some (.int (rF_plainFits p q r s t))) ab := by
  refine am_Ev_of cwF_plainFits rfl rfl rfl (am_wp_T gdF_plainFits 400 ?_)
  refine am_split (fun h1 => ?_) (fun h1 => ?_)
  · skip
    refine am_call (eX_within q (0 : Int32) t _) ?_
    refine am_split (fun h2 => ?_) (fun h2 => ?_)
    · skip
      exact am_ri (S := sF_plainFits) (by unfold rF_plainFits; simp only [if_pos h1, if_pos h2]; try rfl) rfl rfl rfl
    · skip
      refine am_call (eX_within r (0 : Int32) t _) ?_
      refine am_split (fun h3 => ?_) (fun h3 => ?_)
      · skip
        exact am_ri (S := sF_plainFits) (by unfold rF_plainFits; simp only [if_pos h1, if_neg h2, if_pos h3]; try rfl) rfl rfl rfl
      · skip
        refine am_call (eX_within s (0 : Int32) t _) ?_
        refine am_split (fun h4 => ?_) (fun h4 => ?_)
        · skip
          exact am_ri (S := sF_plainFits) (by unfold rF_plainFits; simp only [if_pos h1, if_neg h2, if_neg h3, if_pos h4]; try rfl) rfl rfl rfl
        · skip
          exact am_ri (S := sF_plainFits) (by unfold rF_plainFits; simp only [if_pos h1, if_neg h2, if_neg h3, if_neg h4]; try rfl) rfl rfl rfl
  · skip
    refine am_split (fun h5 => ?_) (fun h5 => ?_)
    · skip
      refine am_call (eX_within q (0 : Int32) t _) ?_
      refine am_split (fun h6 => ?_) (fun h6 => ?_)
      · skip
        exact am_ri (S := sF_plainFits) (by unfold rF_plainFits; simp only [if_neg h1, if_pos h5, if_pos h6]; try rfl) rfl rfl rfl
      · skip
        refine am_call (eX_within r (0 : Int32) t _) ?_
        refine am_split (fun h7 => ?_) (fun h7 => ?_)
        · skip
          exact am_ri (S := sF_plainFits) (by unfold rF_plainFits; simp only [if_neg h1, if_pos h5, if_neg h6, if_pos h7]; try rfl) rfl rfl rfl
        · skip
          refine am_call (eX_within s (0 : Int32) t _) ?_
          refine am_split (fun h8 => ?_) (fun h8 => ?_)
          · skip
            exact am_ri (S := sF_plainFits) (by unfold rF_plainFits; simp only [if_neg h1, if_pos h5, if_neg h6, if_neg h7, if_pos h8]; try rfl) rfl rfl rfl
          · skip
            exact am_ri (S := sF_plainFits) (by unfold rF_plainFits; simp only [if_neg h1, if_pos h5, if_neg h6, if_neg h7, if_neg h8]; try rfl) rfl rfl rfl
    · skip
      refine am_split (fun h9 => ?_) (fun h9 => ?_)
      · skip
        refine am_call (eX_within q (0 : Int32) t _) ?_
        refine am_split (fun h10 => ?_) (fun h10 => ?_)
        · skip
          exact am_ri (S := sF_plainFits) (by unfold rF_plainFits; simp only [if_neg h1, if_neg h5, if_pos h9, if_pos h10]; try rfl) rfl rfl rfl
        · skip
          refine am_call (eX_within r (0 : Int32) t _) ?_
          refine am_split (fun h11 => ?_) (fun h11 => ?_)
          · skip
            exact am_ri (S := sF_plainFits) (by unfold rF_plainFits; simp only [if_neg h1, if_neg h5, if_pos h9, if_neg h10, if_pos h11]; try rfl) rfl rfl rfl
          · skip
            refine am_call (eX_within s (0 : Int32) t _) ?_
            refine am_split (fun h12 => ?_) (fun h12 => ?_)
            · skip
              exact am_ri (S := sF_plainFits) (by unfold rF_plainFits; simp only [if_neg h1, if_neg h5, if_pos h9, if_neg h10, if_neg h11, if_pos h12]; try rfl) rfl rfl rfl
            · skip
              exact am_ri (S := sF_plainFits) (by unfold rF_plainFits; simp only [if_neg h1, if_neg h5, if_pos h9, if_neg h10, if_neg h11, if_neg h12]; try rfl) rfl rfl rfl
      · skip
        refine am_split (fun h13 => ?_) (fun h13 => ?_)
        · skip
          refine am_call (eX_within q (0 : Int32) t _) ?_
          refine am_split (fun h14 => ?_) (fun h14 => ?_)
          · skip
            exact am_ri (S := sF_plainFits) (by unfold rF_plainFits; simp only [if_neg h1, if_neg h5, if_neg h9, if_pos h13, if_pos h14]; try rfl) rfl rfl rfl
          · skip
            refine am_call (eX_within r (0 : Int32) t _) ?_
            refine am_split (fun h15 => ?_) (fun h15 => ?_)
            · skip
              exact am_ri (S := sF_plainFits) (by unfold rF_plainFits; simp only [if_neg h1, if_neg h5, if_neg h9, if_pos h13, if_neg h14, if_pos h15]; try rfl) rfl rfl rfl
            · skip
              refine am_call (eX_within s (0 : Int32) t _) ?_
              refine am_split (fun h16 => ?_) (fun h16 => ?_)
              · skip
                exact am_ri (S := sF_plainFits) (by unfold rF_plainFits; simp only [if_neg h1, if_neg h5, if_neg h9, if_pos h13, if_neg h14, if_neg h15, if_pos h16]; try rfl) rfl rfl rfl
              · skip
                exact am_ri (S := sF_plainFits) (by unfold rF_plainFits; simp only [if_neg h1, if_neg h5, if_neg h9, if_pos h13, if_neg h14, if_neg h15, if_neg h16]; try rfl) rfl rfl rfl
        · skip
          refine am_split (fun h17 => ?_) (fun h17 => ?_)
          · skip
            refine am_call (eX_within q (0 : Int32) t _) ?_
            refine am_split (fun h18 => ?_) (fun h18 => ?_)
            · skip
              exact am_ri (S := sF_plainFits) (by unfold rF_plainFits; simp only [if_neg h1, if_neg h5, if_neg h9, if_neg h13, if_pos h17, if_pos h18]; try rfl) rfl rfl rfl
            · skip
              refine am_call (eX_within r (0 : Int32) t _) ?_
              refine am_split (fun h19 => ?_) (fun h19 => ?_)
              · skip
                exact am_ri (S := sF_plainFits) (by unfold rF_plainFits; simp only [if_neg h1, if_neg h5, if_neg h9, if_neg h13, if_pos h17, if_neg h18, if_pos h19]; try rfl) rfl rfl rfl
              · skip
                refine am_call (eF_isShort s _) ?_
                refine am_split (fun h20 => ?_) (fun h20 => ?_)
                · skip
                  exact am_ri (S := sF_plainFits) (by unfold rF_plainFits; simp only [if_neg h1, if_neg h5, if_neg h9, if_neg h13, if_pos h17, if_neg h18, if_neg h19, if_pos h20]; try rfl) rfl rfl rfl
                · skip
                  exact am_ri (S := sF_plainFits) (by unfold rF_plainFits; simp only [if_neg h1, if_neg h5, if_neg h9, if_neg h13, if_pos h17, if_neg h18, if_neg h19, if_neg h20]; try rfl) rfl rfl rfl
          · skip
            refine am_split (fun h21 => ?_) (fun h21 => ?_)
            · skip
              refine am_call (eX_within q (0 : Int32) t _) ?_
              refine am_split (fun h22 => ?_) (fun h22 => ?_)
              · skip
                exact am_ri (S := sF_plainFits) (by unfold rF_plainFits; simp only [if_neg h1, if_neg h5, if_neg h9, if_neg h13, if_neg h17, if_pos h21, if_pos h22]; try rfl) rfl rfl rfl
              · skip
                refine am_call (eX_within r (0 : Int32) (1048575 : Int32) _) ?_
                refine am_split (fun h23 => ?_) (fun h23 => ?_)
                · skip
                  exact am_ri (S := sF_plainFits) (by unfold rF_plainFits; simp only [if_neg h1, if_neg h5, if_neg h9, if_neg h13, if_neg h17, if_pos h21, if_neg h22, if_pos h23]; try rfl) rfl rfl rfl
                · skip
                  exact am_ri (S := sF_plainFits) (by unfold rF_plainFits; simp only [if_neg h1, if_neg h5, if_neg h9, if_neg h13, if_neg h17, if_pos h21, if_neg h22, if_neg h23]; try rfl) rfl rfl rfl
            · skip
              refine am_split (fun h24 => ?_) (fun h24 => ?_)
              · skip
                refine am_call (eX_within q (0 : Int32) t _) ?_
                refine am_split (fun h25 => ?_) (fun h25 => ?_)
                · skip
                  exact am_ri (S := sF_plainFits) (by unfold rF_plainFits; simp only [if_neg h1, if_neg h5, if_neg h9, if_neg h13, if_neg h17, if_neg h21, if_pos h24, if_pos h25]; try rfl) rfl rfl rfl
                · skip
                  refine am_call (eX_within r (0 : Int32) t _) ?_
                  refine am_split (fun h26 => ?_) (fun h26 => ?_)
                  · skip
                    exact am_ri (S := sF_plainFits) (by unfold rF_plainFits; simp only [if_neg h1, if_neg h5, if_neg h9, if_neg h13, if_neg h17, if_neg h21, if_pos h24, if_neg h25, if_pos h26]; try rfl) rfl rfl rfl
                  · skip
                    refine am_call (eF_isShort s _) ?_
                    refine am_split (fun h27 => ?_) (fun h27 => ?_)
                    · skip
                      exact am_ri (S := sF_plainFits) (by unfold rF_plainFits; simp only [if_neg h1, if_neg h5, if_neg h9, if_neg h13, if_neg h17, if_neg h21, if_pos h24, if_neg h25, if_neg h26, if_pos h27]; try rfl) rfl rfl rfl
                    · skip
                      exact am_ri (S := sF_plainFits) (by unfold rF_plainFits; simp only [if_neg h1, if_neg h5, if_neg h9, if_neg h13, if_neg h17, if_neg h21, if_pos h24, if_neg h25, if_neg h26, if_neg h27]; try rfl) rfl rfl rfl
              · skip
                refine am_split (fun h28 => ?_) (fun h28 => ?_)
                · skip
                  refine am_call (eX_within q (0 : Int32) t _) ?_
                  refine am_split (fun h29 => ?_) (fun h29 => ?_)
                  · skip
                    exact am_ri (S := sF_plainFits) (by unfold rF_plainFits; simp only [if_neg h1, if_neg h5, if_neg h9, if_neg h13, if_neg h17, if_neg h21, if_neg h24, if_pos h28, if_pos h29]; try rfl) rfl rfl rfl
                  · skip
                    refine am_call (eX_within r (0 : Int32) t _) ?_
                    refine am_split (fun h30 => ?_) (fun h30 => ?_)
                    · skip
                      exact am_ri (S := sF_plainFits) (by unfold rF_plainFits; simp only [if_neg h1, if_neg h5, if_neg h9, if_neg h13, if_neg h17, if_neg h21, if_neg h24, if_pos h28, if_neg h29, if_pos h30]; try rfl) rfl rfl rfl
                    · skip
                      refine am_call (eF_isShort s _) ?_
                      refine am_split (fun h31 => ?_) (fun h31 => ?_)
                      · skip
                        exact am_ri (S := sF_plainFits) (by unfold rF_plainFits; simp only [if_neg h1, if_neg h5, if_neg h9, if_neg h13, if_neg h17, if_neg h21, if_neg h24, if_pos h28, if_neg h29, if_neg h30, if_pos h31]; try rfl) rfl rfl rfl
                      · skip
                        exact am_ri (S := sF_plainFits) (by unfold rF_plainFits; simp only [if_neg h1, if_neg h5, if_neg h9, if_neg h13, if_neg h17, if_neg h21, if_neg h24, if_pos h28, if_neg h29, if_neg h30, if_neg h31]; try rfl) rfl rfl rfl
                · skip
                  refine am_split (fun h32 => ?_) (fun h32 => ?_)
                  · skip
                    exact am_ri (S := sF_plainFits) (by unfold rF_plainFits; simp only [if_neg h1, if_neg h5, if_neg h9, if_neg h13, if_neg h17, if_neg h21, if_neg h24, if_neg h28, if_pos h32]; try rfl) rfl rfl rfl
                  · skip
                    refine am_split (fun h33 => ?_) (fun h33 => ?_)
                    · skip
                      exact am_ri (S := sF_plainFits) (by unfold rF_plainFits; simp only [if_neg h1, if_neg h5, if_neg h9, if_neg h13, if_neg h17, if_neg h21, if_neg h24, if_neg h28, if_neg h32, if_pos h33]; try rfl) rfl rfl rfl
                    · skip
                      refine am_split (fun h34 => ?_) (fun h34 => ?_)
                      · skip
                        exact am_ri (S := sF_plainFits) (by unfold rF_plainFits; simp only [if_neg h1, if_neg h5, if_neg h9, if_neg h13, if_neg h17, if_neg h21, if_neg h24, if_neg h28, if_neg h32, if_neg h33, if_pos h34]; try rfl) rfl rfl rfl
                      · skip
                        refine am_split (fun h35 => ?_) (fun h35 => ?_)
                        · skip
                          exact am_ri (S := sF_plainFits) (by unfold rF_plainFits; simp only [if_neg h1, if_neg h5, if_neg h9, if_neg h13, if_neg h17, if_neg h21, if_neg h24, if_neg h28, if_neg h32, if_neg h33, if_neg h34, if_pos h35]; try rfl) rfl rfl rfl
                        · skip
                          refine am_split (fun h36 => ?_) (fun h36 => ?_)
                          · skip
                            exact am_ri (S := sF_plainFits) (by unfold rF_plainFits; simp only [if_neg h1, if_neg h5, if_neg h9, if_neg h13, if_neg h17, if_neg h21, if_neg h24, if_neg h28, if_neg h32, if_neg h33, if_neg h34, if_neg h35, if_pos h36]; try rfl) rfl rfl rfl
                          · skip
                            refine am_split (fun h37 => ?_) (fun h37 => ?_)
                            · skip
                              refine am_call (eX_within q (0 : Int32) t _) ?_
                              refine am_split (fun h38 => ?_) (fun h38 => ?_)
                              · skip
                                exact am_ri (S := sF_plainFits) (by unfold rF_plainFits; simp only [if_neg h1, if_neg h5, if_neg h9, if_neg h13, if_neg h17, if_neg h21, if_neg h24, if_neg h28, if_neg h32, if_neg h33, if_neg h34, if_neg h35, if_neg h36, if_pos h37, if_pos h38]; try rfl) rfl rfl rfl
                              · skip
                                refine am_call (eX_within r (-32 : Int32) (31 : Int32) _) ?_
                                refine am_split (fun h39 => ?_) (fun h39 => ?_)
                                · skip
                                  exact am_ri (S := sF_plainFits) (by unfold rF_plainFits; simp only [if_neg h1, if_neg h5, if_neg h9, if_neg h13, if_neg h17, if_neg h21, if_neg h24, if_neg h28, if_neg h32, if_neg h33, if_neg h34, if_neg h35, if_neg h36, if_pos h37, if_neg h38, if_pos h39]; try rfl) rfl rfl rfl
                                · skip
                                  refine am_split (fun h40 => ?_) (fun h40 => ?_)
                                  · skip
                                    refine am_split (fun h41 => ?_) (fun h41 => ?_)
                                    · skip
                                      refine am_split (fun _ => ?_) (fun hz => absurd (by decide) hz)
                                      exact am_ri (S := sF_plainFits) (by unfold rF_plainFits; simp only [if_neg h1, if_neg h5, if_neg h9, if_neg h13, if_neg h17, if_neg h21, if_neg h24, if_neg h28, if_neg h32, if_neg h33, if_neg h34, if_neg h35, if_neg h36, if_pos h37, if_neg h38, if_neg h39, if_pos h40, if_pos h41]; try rfl) rfl rfl rfl
                                    · skip
                                      refine am_split (fun hz => absurd hz (by decide)) (fun _ => ?_)
                                      exact am_ri (S := sF_plainFits) (by unfold rF_plainFits; simp only [if_neg h1, if_neg h5, if_neg h9, if_neg h13, if_neg h17, if_neg h21, if_neg h24, if_neg h28, if_neg h32, if_neg h33, if_neg h34, if_neg h35, if_neg h36, if_pos h37, if_neg h38, if_neg h39, if_pos h40, if_neg h41]; try rfl) rfl rfl rfl
                                  · skip
                                    refine am_split (fun h42 => ?_) (fun h42 => ?_)
                                    · skip
                                      refine am_split (fun hz => absurd hz (by decide)) (fun _ => ?_)
                                      exact am_ri (S := sF_plainFits) (by unfold rF_plainFits; simp only [if_neg h1, if_neg h5, if_neg h9, if_neg h13, if_neg h17, if_neg h21, if_neg h24, if_neg h28, if_neg h32, if_neg h33, if_neg h34, if_neg h35, if_neg h36, if_pos h37, if_neg h38, if_neg h39, if_neg h40, if_pos h42]; try rfl) rfl rfl rfl
                                    · skip
                                      refine am_split (fun _ => ?_) (fun hz => absurd (by decide) hz)
                                      exact am_ri (S := sF_plainFits) (by unfold rF_plainFits; simp only [if_neg h1, if_neg h5, if_neg h9, if_neg h13, if_neg h17, if_neg h21, if_neg h24, if_neg h28, if_neg h32, if_neg h33, if_neg h34, if_neg h35, if_neg h36, if_pos h37, if_neg h38, if_neg h39, if_neg h40, if_neg h42]; try rfl) rfl rfl rfl
                            · skip
                              refine am_split (fun h43 => ?_) (fun h43 => ?_)
                              · skip
                                refine am_call (eX_within q (1 : Int32) t _) ?_
                                refine am_split (fun h44 => ?_) (fun h44 => ?_)
                                · skip
                                  exact am_ri (S := sF_plainFits) (by unfold rF_plainFits; simp only [if_neg h1, if_neg h5, if_neg h9, if_neg h13, if_neg h17, if_neg h21, if_neg h24, if_neg h28, if_neg h32, if_neg h33, if_neg h34, if_neg h35, if_neg h36, if_neg h37, if_pos h43, if_pos h44]; try rfl) rfl rfl rfl
                                · skip
                                  refine am_call (eX_within r (1 : Int32) t _) ?_
                                  refine am_split (fun h45 => ?_) (fun h45 => ?_)
                                  · skip
                                    exact am_ri (S := sF_plainFits) (by unfold rF_plainFits; simp only [if_neg h1, if_neg h5, if_neg h9, if_neg h13, if_neg h17, if_neg h21, if_neg h24, if_neg h28, if_neg h32, if_neg h33, if_neg h34, if_neg h35, if_neg h36, if_neg h37, if_pos h43, if_neg h44, if_pos h45]; try rfl) rfl rfl rfl
                                  · skip
                                    exact am_ri (S := sF_plainFits) (by unfold rF_plainFits; simp only [if_neg h1, if_neg h5, if_neg h9, if_neg h13, if_neg h17, if_neg h21, if_neg h24, if_neg h28, if_neg h32, if_neg h33, if_neg h34, if_neg h35, if_neg h36, if_neg h37, if_pos h43, if_neg h44, if_neg h45]; try rfl) rfl rfl rfl
                              · skip
                                exact am_ri (S := sF_plainFits) (by unfold rF_plainFits; simp only [if_neg h1, if_neg h5, if_neg h9, if_neg h13, if_neg h17, if_neg h21, if_neg h24, if_neg h28, if_neg h32, if_neg h33, if_neg h34, if_neg h35, if_neg h36, if_neg h37, if_neg h43]; try rfl) rfl rfl rfl
theorem zoF_plainFits (p q r s t : Int32) : rF_plainFits p q r s t = 0 ∨ rF_plainFits p q r s t = 1 := by
  unfold rF_plainFits
  repeat' (first | with_reducible refine zo_ite ?_ ?_ | with_reducible exact Or.inl rfl | with_reducible exact Or.inr rfl)
noncomputable def rF_encodable (p q r s : Int32) : Int32 := if p = (8 : Int32) then if (rX_within q (0 : Int32) (31 : Int32)) = (0 : Int32) then (0 : Int32) else if (rX_within r (0 : Int32) (31 : Int32)) = (0 : Int32) then (0 : Int32) else if (rX_within s (-4096 : Int32) (4094 : Int32)) = (0 : Int32) then (0 : Int32) else if (s &&& (1 : Int32)) = (0 : Int32) then (1 : Int32) else (0 : Int32) else if p = (9 : Int32) then if (rX_within q (0 : Int32) (31 : Int32)) = (0 : Int32) then (0 : Int32) else if (rX_within r (0 : Int32) (31 : Int32)) = (0 : Int32) then (0 : Int32) else if (rX_within s (-4096 : Int32) (4094 : Int32)) = (0 : Int32) then (0 : Int32) else if (s &&& (1 : Int32)) = (0 : Int32) then (1 : Int32) else (0 : Int32) else if p = (10 : Int32) then if (rX_within q (0 : Int32) (31 : Int32)) = (0 : Int32) then (0 : Int32) else if (rX_within r (0 : Int32) (31 : Int32)) = (0 : Int32) then (0 : Int32) else if (rX_within s (-4096 : Int32) (4094 : Int32)) = (0 : Int32) then (0 : Int32) else if (s &&& (1 : Int32)) = (0 : Int32) then (1 : Int32) else (0 : Int32) else if p = (11 : Int32) then if (rX_within q (0 : Int32) (31 : Int32)) = (0 : Int32) then (0 : Int32) else if (rX_within r (-1048576 : Int32) (1048574 : Int32)) = (0 : Int32) then (0 : Int32) else if (r &&& (1 : Int32)) = (0 : Int32) then (1 : Int32) else (0 : Int32) else if p = (12 : Int32) then if (rX_within q (0 : Int32) (31 : Int32)) = (0 : Int32) then (0 : Int32) else if (rX_within r (0 : Int32) (31 : Int32)) = (0 : Int32) then (0 : Int32) else if (rF_isShort s) = (0 : Int32) then (0 : Int32) else (1 : Int32) else (rF_plainFits p q r s (31 : Int32))
set_option maxHeartbeats 4000000 in
set_option maxRecDepth 100000 in
theorem eF_encodable (p q r s : Int32) (ab : List am_Cl) : am_Ev sF_encodable [.int p, .int q, .int r, .int s] ab (some (.int (rF_encodable p q r s))) ab := by
  refine am_Ev_of cwF_encodable rfl rfl rfl (am_wp_T gdF_encodable 400 ?_)
  refine am_split (fun h1 => ?_) (fun h1 => ?_)
  · skip
    refine am_call (eX_within q (0 : Int32) (31 : Int32) _) ?_
    refine am_split (fun h2 => ?_) (fun h2 => ?_)
    · skip
      exact am_ri (S := sF_encodable) (by unfold rF_encodable; simp only [if_pos h1, if_pos h2]; try rfl) rfl rfl rfl
    · skip
      refine am_call (eX_within r (0 : Int32) (31 : Int32) _) ?_
      refine am_split (fun h3 => ?_) (fun h3 => ?_)
      · skip
        exact am_ri (S := sF_encodable) (by unfold rF_encodable; simp only [if_pos h1, if_neg h2, if_pos h3]; try rfl) rfl rfl rfl
      · skip
        refine am_call (eX_within s (-4096 : Int32) (4094 : Int32) _) ?_
        refine am_split (fun h4 => ?_) (fun h4 => ?_)
        · skip
          exact am_ri (S := sF_encodable) (by unfold rF_encodable; simp only [if_pos h1, if_neg h2, if_neg h3, if_pos h4]; try rfl) rfl rfl rfl
        · skip
          refine am_split (fun h5 => ?_) (fun h5 => ?_)
          · skip
            exact am_ri (S := sF_encodable) (by unfold rF_encodable; simp only [if_pos h1, if_neg h2, if_neg h3, if_neg h4, if_pos h5]; try rfl) rfl rfl rfl
          · skip
            exact am_ri (S := sF_encodable) (by unfold rF_encodable; simp only [if_pos h1, if_neg h2, if_neg h3, if_neg h4, if_neg h5]; try rfl) rfl rfl rfl
  · skip
    refine am_split (fun h6 => ?_) (fun h6 => ?_)
    · skip
      refine am_call (eX_within q (0 : Int32) (31 : Int32) _) ?_
      refine am_split (fun h7 => ?_) (fun h7 => ?_)
      · skip
        exact am_ri (S := sF_encodable) (by unfold rF_encodable; simp only [if_neg h1, if_pos h6, if_pos h7]; try rfl) rfl rfl rfl
      · skip
        refine am_call (eX_within r (0 : Int32) (31 : Int32) _) ?_
        refine am_split (fun h8 => ?_) (fun h8 => ?_)
        · skip
          exact am_ri (S := sF_encodable) (by unfold rF_encodable; simp only [if_neg h1, if_pos h6, if_neg h7, if_pos h8]; try rfl) rfl rfl rfl
        · skip
          refine am_call (eX_within s (-4096 : Int32) (4094 : Int32) _) ?_
          refine am_split (fun h9 => ?_) (fun h9 => ?_)
          · skip
            exact am_ri (S := sF_encodable) (by unfold rF_encodable; simp only [if_neg h1, if_pos h6, if_neg h7, if_neg h8, if_pos h9]; try rfl) rfl rfl rfl
          · skip
            refine am_split (fun h10 => ?_) (fun h10 => ?_)
            · skip
              exact am_ri (S := sF_encodable) (by unfold rF_encodable; simp only [if_neg h1, if_pos h6, if_neg h7, if_neg h8, if_neg h9, if_pos h10]; try rfl) rfl rfl rfl
            · skip
              exact am_ri (S := sF_encodable) (by unfold rF_encodable; simp only [if_neg h1, if_pos h6, if_neg h7, if_neg h8, if_neg h9, if_neg h10]; try rfl) rfl rfl rfl
    · skip
      refine am_split (fun h11 => ?_) (fun h11 => ?_)
      · skip
        refine am_call (eX_within q (0 : Int32) (31 : Int32) _) ?_
        refine am_split (fun h12 => ?_) (fun h12 => ?_)
        · skip
          exact am_ri (S := sF_encodable) (by unfold rF_encodable; simp only [if_neg h1, if_neg h6, if_pos h11, if_pos h12]; try rfl) rfl rfl rfl
        · skip
          refine am_call (eX_within r (0 : Int32) (31 : Int32) _) ?_
          refine am_split (fun h13 => ?_) (fun h13 => ?_)
          · skip
            exact am_ri (S := sF_encodable) (by unfold rF_encodable; simp only [if_neg h1, if_neg h6, if_pos h11, if_neg h12, if_pos h13]; try rfl) rfl rfl rfl
          · skip
            refine am_call (eX_within s (-4096 : Int32) (4094 : Int32) _) ?_
            refine am_split (fun h14 => ?_) (fun h14 => ?_)
            · skip
              exact am_ri (S := sF_encodable) (by unfold rF_encodable; simp only [if_neg h1, if_neg h6, if_pos h11, if_neg h12, if_neg h13, if_pos h14]; try rfl) rfl rfl rfl
            · skip
              refine am_split (fun h15 => ?_) (fun h15 => ?_)
              · skip
                exact am_ri (S := sF_encodable) (by unfold rF_encodable; simp only [if_neg h1, if_neg h6, if_pos h11, if_neg h12, if_neg h13, if_neg h14, if_pos h15]; try rfl) rfl rfl rfl
              · skip
                exact am_ri (S := sF_encodable) (by unfold rF_encodable; simp only [if_neg h1, if_neg h6, if_pos h11, if_neg h12, if_neg h13, if_neg h14, if_neg h15]; try rfl) rfl rfl rfl
      · skip
        refine am_split (fun h16 => ?_) (fun h16 => ?_)
        · skip
          refine am_call (eX_within q (0 : Int32) (31 : Int32) _) ?_
          refine am_split (fun h17 => ?_) (fun h17 => ?_)
          · skip
            exact am_ri (S := sF_encodable) (by unfold rF_encodable; simp only [if_neg h1, if_neg h6, if_neg h11, if_pos h16, if_pos h17]; try rfl) rfl rfl rfl
          · skip
            refine am_call (eX_within r (-1048576 : Int32) (1048574 : Int32) _) ?_
            refine am_split (fun h18 => ?_) (fun h18 => ?_)
            · skip
              exact am_ri (S := sF_encodable) (by unfold rF_encodable; simp only [if_neg h1, if_neg h6, if_neg h11, if_pos h16, if_neg h17, if_pos h18]; try rfl) rfl rfl rfl
            · skip
              refine am_split (fun h19 => ?_) (fun h19 => ?_)
              · skip
                exact am_ri (S := sF_encodable) (by unfold rF_encodable; simp only [if_neg h1, if_neg h6, if_neg h11, if_pos h16, if_neg h17, if_neg h18, if_pos h19]; try rfl) rfl rfl rfl
              · skip
                exact am_ri (S := sF_encodable) (by unfold rF_encodable; simp only [if_neg h1, if_neg h6, if_neg h11, if_pos h16, if_neg h17, if_neg h18, if_neg h19]; try rfl) rfl rfl rfl
        · skip
          refine am_split (fun h20 => ?_) (fun h20 => ?_)
          · skip
            refine am_call (eX_within q (0 : Int32) (31 : Int32) _) ?_
            refine am_split (fun h21 => ?_) (fun h21 => ?_)
            · skip
              exact am_ri (S := sF_encodable) (by unfold rF_encodable; simp only [if_neg h1, if_neg h6, if_neg h11, if_neg h16, if_pos h20, if_pos h21]; try rfl) rfl rfl rfl
            · skip
              refine am_call (eX_within r (0 : Int32) (31 : Int32) _) ?_
              refine am_split (fun h22 => ?_) (fun h22 => ?_)
              · skip
                exact am_ri (S := sF_encodable) (by unfold rF_encodable; simp only [if_neg h1, if_neg h6, if_neg h11, if_neg h16, if_pos h20, if_neg h21, if_pos h22]; try rfl) rfl rfl rfl
              · skip
                refine am_call (eF_isShort s _) ?_
                refine am_split (fun h23 => ?_) (fun h23 => ?_)
                · skip
                  exact am_ri (S := sF_encodable) (by unfold rF_encodable; simp only [if_neg h1, if_neg h6, if_neg h11, if_neg h16, if_pos h20, if_neg h21, if_neg h22, if_pos h23]; try rfl) rfl rfl rfl
                · skip
                  exact am_ri (S := sF_encodable) (by unfold rF_encodable; simp only [if_neg h1, if_neg h6, if_neg h11, if_neg h16, if_pos h20, if_neg h21, if_neg h22, if_neg h23]; try rfl) rfl rfl rfl
          · skip
            refine am_call (eF_plainFits p q r s (31 : Int32) _) ?_
            exact am_ri (S := sF_encodable) (by unfold rF_encodable; simp only [if_neg h1, if_neg h6, if_neg h11, if_neg h16, if_neg h20]; try rfl) rfl rfl (am_nz (zoF_plainFits p q r s (31 : Int32)))
theorem zoF_encodable (p q r s : Int32) : rF_encodable p q r s = 0 ∨ rF_encodable p q r s = 1 := by
  unfold rF_encodable
  repeat' (first | with_reducible refine zo_ite ?_ ?_ | with_reducible exact zoF_plainFits .. | with_reducible exact Or.inl rfl | with_reducible exact Or.inr rfl)
noncomputable def rF_pack (p q r s : Int32) : Int32 := if p = (0 : Int32) then (rF_threeRegisters (0 : Int32) (0 : Int32) q r s) else if p = (1 : Int32) then (rF_threeRegisters (32 : Int32) (0 : Int32) q r s) else if p = (2 : Int32) then (rF_threeRegisters (0 : Int32) (7 : Int32) q r s) else if p = (3 : Int32) then (rF_threeRegisters (0 : Int32) (6 : Int32) q r s) else if p = (4 : Int32) then (rF_withShort (0 : Int32) (19 : Int32) q r s) else if p = (5 : Int32) then (((r <<< ((12 : Int32) &&& 31)) ||| (q <<< ((7 : Int32) &&& 31))) ||| (55 : Int32)) else if p = (6 : Int32) then (rF_withShort (2 : Int32) (3 : Int32) q r s) else if p = (7 : Int32) then (((((((s >>> ((5 : Int32) &&& 31)) <<< ((25 : Int32) &&& 31)) ||| (q <<< ((20 : Int32) &&& 31))) ||| (r <<< ((15 : Int32) &&& 31))) ||| (8192 : Int32)) ||| ((s &&& (31 : Int32)) <<< ((7 : Int32) &&& 31))) ||| (35 : Int32)) else if p = (8 : Int32) then (rF_branch (0 : Int32) q r s) else if p = (9 : Int32) then (rF_branch (1 : Int32) q r s) else if p = (10 : Int32) then (rF_branch (4 : Int32) q r s) else if p = (11 : Int32) then (rF_jump q r) else if p = (12 : Int32) then (rF_withShort (0 : Int32) (103 : Int32) q r s) else if p = (13 : Int32) then ((((((r >>> ((5 : Int32) &&& 31)) &&& (1 : Int32)) <<< ((12 : Int32) &&& 31)) ||| (q <<< ((7 : Int32) &&& 31))) ||| ((r &&& (31 : Int32)) <<< ((2 : Int32) &&& 31))) ||| (1 : Int32)) else if p = (14 : Int32) then ((((32768 : Int32) ||| (q <<< ((7 : Int32) &&& 31))) ||| (r <<< ((2 : Int32) &&& 31))) ||| (2 : Int32)) else (-1 : Int32)
set_option maxHeartbeats 4000000 in
set_option maxRecDepth 100000 in
theorem eF_pack (p q r s : Int32) (ab : List am_Cl) : am_Ev sF_pack [.int p, .int q, .int r, .int s] ab (some (.int (rF_pack p q r s))) ab := by
  refine am_Ev_of cwF_pack rfl rfl rfl (am_wp_T gdF_pack 400 ?_)
  refine am_split (fun h1 => ?_) (fun h1 => ?_)
  · skip
    refine am_call (eF_threeRegisters (0 : Int32) (0 : Int32) q r s _) ?_
    exact am_ri (S := sF_pack) (by unfold rF_pack; simp only [if_pos h1]; try rfl) rfl rfl rfl
  · skip
    refine am_split (fun h2 => ?_) (fun h2 => ?_)
    · skip
      refine am_call (eF_threeRegisters (32 : Int32) (0 : Int32) q r s _) ?_
      exact am_ri (S := sF_pack) (by unfold rF_pack; simp only [if_neg h1, if_pos h2]; try rfl) rfl rfl rfl
    · skip
      refine am_split (fun h3 => ?_) (fun h3 => ?_)
      · skip
        refine am_call (eF_threeRegisters (0 : Int32) (7 : Int32) q r s _) ?_
        exact am_ri (S := sF_pack) (by unfold rF_pack; simp only [if_neg h1, if_neg h2, if_pos h3]; try rfl) rfl rfl rfl
      · skip
        refine am_split (fun h4 => ?_) (fun h4 => ?_)
        · skip
          refine am_call (eF_threeRegisters (0 : Int32) (6 : Int32) q r s _) ?_
          exact am_ri (S := sF_pack) (by unfold rF_pack; simp only [if_neg h1, if_neg h2, if_neg h3, if_pos h4]; try rfl) rfl rfl rfl
        · skip
          refine am_split (fun h5 => ?_) (fun h5 => ?_)
          · skip
            refine am_call (eF_withShort (0 : Int32) (19 : Int32) q r s _) ?_
            exact am_ri (S := sF_pack) (by unfold rF_pack; simp only [if_neg h1, if_neg h2, if_neg h3, if_neg h4, if_pos h5]; try rfl) rfl rfl rfl
          · skip
            refine am_split (fun h6 => ?_) (fun h6 => ?_)
            · skip
              exact am_ri (S := sF_pack) (by unfold rF_pack; simp only [if_neg h1, if_neg h2, if_neg h3, if_neg h4, if_neg h5, if_pos h6]; try rfl) rfl rfl rfl
            · skip
              refine am_split (fun h7 => ?_) (fun h7 => ?_)
              · skip
                refine am_call (eF_withShort (2 : Int32) (3 : Int32) q r s _) ?_
                exact am_ri (S := sF_pack) (by unfold rF_pack; simp only [if_neg h1, if_neg h2, if_neg h3, if_neg h4, if_neg h5, if_neg h6, if_pos h7]; try rfl) rfl rfl rfl
              · skip
                refine am_split (fun h8 => ?_) (fun h8 => ?_)
                · skip
                  exact am_ri (S := sF_pack) (by unfold rF_pack; simp only [if_neg h1, if_neg h2, if_neg h3, if_neg h4, if_neg h5, if_neg h6, if_neg h7, if_pos h8]; try rfl) rfl rfl rfl
                · skip
                  refine am_split (fun h9 => ?_) (fun h9 => ?_)
                  · skip
                    refine am_call (eF_branch (0 : Int32) q r s _) ?_
                    exact am_ri (S := sF_pack) (by unfold rF_pack; simp only [if_neg h1, if_neg h2, if_neg h3, if_neg h4, if_neg h5, if_neg h6, if_neg h7, if_neg h8, if_pos h9]; try rfl) rfl rfl rfl
                  · skip
                    refine am_split (fun h10 => ?_) (fun h10 => ?_)
                    · skip
                      refine am_call (eF_branch (1 : Int32) q r s _) ?_
                      exact am_ri (S := sF_pack) (by unfold rF_pack; simp only [if_neg h1, if_neg h2, if_neg h3, if_neg h4, if_neg h5, if_neg h6, if_neg h7, if_neg h8, if_neg h9, if_pos h10]; try rfl) rfl rfl rfl
                    · skip
                      refine am_split (fun h11 => ?_) (fun h11 => ?_)
                      · skip
                        refine am_call (eF_branch (4 : Int32) q r s _) ?_
                        exact am_ri (S := sF_pack) (by unfold rF_pack; simp only [if_neg h1, if_neg h2, if_neg h3, if_neg h4, if_neg h5, if_neg h6, if_neg h7, if_neg h8, if_neg h9, if_neg h10, if_pos h11]; try rfl) rfl rfl rfl
                      · skip
                        refine am_split (fun h12 => ?_) (fun h12 => ?_)
                        · skip
                          refine am_call (eF_jump q r _) ?_
                          exact am_ri (S := sF_pack) (by unfold rF_pack; simp only [if_neg h1, if_neg h2, if_neg h3, if_neg h4, if_neg h5, if_neg h6, if_neg h7, if_neg h8, if_neg h9, if_neg h10, if_neg h11, if_pos h12]; try rfl) rfl rfl rfl
                        · skip
                          refine am_split (fun h13 => ?_) (fun h13 => ?_)
                          · skip
                            refine am_call (eF_withShort (0 : Int32) (103 : Int32) q r s _) ?_
                            exact am_ri (S := sF_pack) (by unfold rF_pack; simp only [if_neg h1, if_neg h2, if_neg h3, if_neg h4, if_neg h5, if_neg h6, if_neg h7, if_neg h8, if_neg h9, if_neg h10, if_neg h11, if_neg h12, if_pos h13]; try rfl) rfl rfl rfl
                          · skip
                            refine am_split (fun h14 => ?_) (fun h14 => ?_)
                            · skip
                              exact am_ri (S := sF_pack) (by unfold rF_pack; simp only [if_neg h1, if_neg h2, if_neg h3, if_neg h4, if_neg h5, if_neg h6, if_neg h7, if_neg h8, if_neg h9, if_neg h10, if_neg h11, if_neg h12, if_neg h13, if_pos h14]; try rfl) rfl rfl rfl
                            · skip
                              refine am_split (fun h15 => ?_) (fun h15 => ?_)
                              · skip
                                exact am_ri (S := sF_pack) (by unfold rF_pack; simp only [if_neg h1, if_neg h2, if_neg h3, if_neg h4, if_neg h5, if_neg h6, if_neg h7, if_neg h8, if_neg h9, if_neg h10, if_neg h11, if_neg h12, if_neg h13, if_neg h14, if_pos h15]; try rfl) rfl rfl rfl
                              · skip
                                exact am_ri (S := sF_pack) (by unfold rF_pack; simp only [if_neg h1, if_neg h2, if_neg h3, if_neg h4, if_neg h5, if_neg h6, if_neg h7, if_neg h8, if_neg h9, if_neg h10, if_neg h11, if_neg h12, if_neg h13, if_neg h14, if_neg h15]; try rfl) rfl rfl rfl
noncomputable def rF_shortKindOf (p : Int32) : Int32 := if (p &&& (3968 : Int32)) = (0 : Int32) then if (p &&& (124 : Int32)) = (0 : Int32) then if (p &&& (57347 : Int32)) = (1 : Int32) then if (p &&& (4096 : Int32)) = (0 : Int32) then (13 : Int32) else (-1 : Int32) else if (p &&& (61443 : Int32)) = (32770 : Int32) then (-1 : Int32) else (-1 : Int32) else if (p &&& (57347 : Int32)) = (1 : Int32) then (-1 : Int32) else if (p &&& (61443 : Int32)) = (32770 : Int32) then (-1 : Int32) else (-1 : Int32) else if (p &&& (124 : Int32)) = (0 : Int32) then if (p &&& (57347 : Int32)) = (1 : Int32) then if (p &&& (4096 : Int32)) = (0 : Int32) then (-1 : Int32) else (13 : Int32) else if (p &&& (61443 : Int32)) = (32770 : Int32) then (-1 : Int32) else (-1 : Int32) else if (p &&& (57347 : Int32)) = (1 : Int32) then (13 : Int32) else if (p &&& (61443 : Int32)) = (32770 : Int32) then (14 : Int32) else (-1 : Int32)
set_option maxHeartbeats 4000000 in
set_option maxRecDepth 100000 in
theorem eF_shortKindOf (p : Int32) (ab : List am_Cl) : am_Ev sF_shortKindOf [.int p] ab (some (.int (rF_shortKindOf p))) ab := by
  refine am_Ev_of cwF_shortKindOf rfl rfl rfl (am_wp_T gdF_shortKindOf 400 ?_)
  refine am_split (fun h1 => ?_) (fun h1 => ?_)
  · skip
    refine am_split (fun h2 => ?_) (fun h2 => ?_)
    · skip
      refine am_split (fun h3 => ?_) (fun h3 => ?_)
      · skip
        refine am_split (fun hz => absurd hz (by decide)) (fun _ => ?_)
        refine am_split (fun h4 => ?_) (fun h4 => ?_)
        · skip
          refine am_split (fun _ => ?_) (fun hz => absurd (by decide) hz)
          exact am_ri (S := sF_shortKindOf) (by unfold rF_shortKindOf; simp only [if_pos h1, if_pos h2, if_pos h3, if_pos h4]; try rfl) rfl rfl rfl
        · skip
          refine am_split (fun hz => absurd hz (by decide)) (fun _ => ?_)
          exact am_ri (S := sF_shortKindOf) (by unfold rF_shortKindOf; simp only [if_pos h1, if_pos h2, if_pos h3, if_neg h4]; try rfl) rfl rfl rfl
      · skip
        refine am_split (fun h5 => ?_) (fun h5 => ?_)
        · skip
          refine am_split (fun hz => absurd hz (by decide)) (fun _ => ?_)
          refine am_split (fun hz => absurd hz (by decide)) (fun _ => ?_)
          exact am_ri (S := sF_shortKindOf) (by unfold rF_shortKindOf; simp only [if_pos h1, if_pos h2, if_neg h3, if_pos h5]; try rfl) rfl rfl rfl
        · skip
          refine am_split (fun _ => ?_) (fun hz => absurd (by decide) hz)
          exact am_ri (S := sF_shortKindOf) (by unfold rF_shortKindOf; simp only [if_pos h1, if_pos h2, if_neg h3, if_neg h5]; try rfl) rfl rfl rfl
    · skip
      refine am_split (fun h6 => ?_) (fun h6 => ?_)
      · skip
        refine am_split (fun _ => ?_) (fun hz => absurd (by decide) hz)
        refine am_split (fun hz => absurd hz (by decide)) (fun _ => ?_)
        exact am_ri (S := sF_shortKindOf) (by unfold rF_shortKindOf; simp only [if_pos h1, if_neg h2, if_pos h6]; try rfl) rfl rfl rfl
      · skip
        refine am_split (fun h7 => ?_) (fun h7 => ?_)
        · skip
          refine am_split (fun hz => absurd hz (by decide)) (fun _ => ?_)
          refine am_split (fun hz => absurd hz (by decide)) (fun _ => ?_)
          exact am_ri (S := sF_shortKindOf) (by unfold rF_shortKindOf; simp only [if_pos h1, if_neg h2, if_neg h6, if_pos h7]; try rfl) rfl rfl rfl
        · skip
          refine am_split (fun _ => ?_) (fun hz => absurd (by decide) hz)
          exact am_ri (S := sF_shortKindOf) (by unfold rF_shortKindOf; simp only [if_pos h1, if_neg h2, if_neg h6, if_neg h7]; try rfl) rfl rfl rfl
  · skip
    refine am_split (fun h8 => ?_) (fun h8 => ?_)
    · skip
      refine am_split (fun h9 => ?_) (fun h9 => ?_)
      · skip
        refine am_split (fun hz => absurd hz (by decide)) (fun _ => ?_)
        refine am_split (fun h10 => ?_) (fun h10 => ?_)
        · skip
          refine am_split (fun hz => absurd hz (by decide)) (fun _ => ?_)
          exact am_ri (S := sF_shortKindOf) (by unfold rF_shortKindOf; simp only [if_neg h1, if_pos h8, if_pos h9, if_pos h10]; try rfl) rfl rfl rfl
        · skip
          refine am_split (fun _ => ?_) (fun hz => absurd (by decide) hz)
          exact am_ri (S := sF_shortKindOf) (by unfold rF_shortKindOf; simp only [if_neg h1, if_pos h8, if_pos h9, if_neg h10]; try rfl) rfl rfl rfl
      · skip
        refine am_split (fun h11 => ?_) (fun h11 => ?_)
        · skip
          refine am_split (fun hz => absurd hz (by decide)) (fun _ => ?_)
          refine am_split (fun _ => ?_) (fun hz => absurd (by decide) hz)
          refine am_split (fun hz => absurd hz (by decide)) (fun _ => ?_)
          exact am_ri (S := sF_shortKindOf) (by unfold rF_shortKindOf; simp only [if_neg h1, if_pos h8, if_neg h9, if_pos h11]; try rfl) rfl rfl rfl
        · skip
          refine am_split (fun _ => ?_) (fun hz => absurd (by decide) hz)
          exact am_ri (S := sF_shortKindOf) (by unfold rF_shortKindOf; simp only [if_neg h1, if_pos h8, if_neg h9, if_neg h11]; try rfl) rfl rfl rfl
    · skip
      refine am_split (fun h12 => ?_) (fun h12 => ?_)
      · skip
        refine am_split (fun _ => ?_) (fun hz => absurd (by decide) hz)
        refine am_split (fun _ => ?_) (fun hz => absurd (by decide) hz)
        exact am_ri (S := sF_shortKindOf) (by unfold rF_shortKindOf; simp only [if_neg h1, if_neg h8, if_pos h12]; try rfl) rfl rfl rfl
      · skip
        refine am_split (fun h13 => ?_) (fun h13 => ?_)
        · skip
          refine am_split (fun hz => absurd hz (by decide)) (fun _ => ?_)
          refine am_split (fun _ => ?_) (fun hz => absurd (by decide) hz)
          refine am_split (fun _ => ?_) (fun hz => absurd (by decide) hz)
          exact am_ri (S := sF_shortKindOf) (by unfold rF_shortKindOf; simp only [if_neg h1, if_neg h8, if_neg h12, if_pos h13]; try rfl) rfl rfl rfl
        · skip
          refine am_split (fun _ => ?_) (fun hz => absurd (by decide) hz)
          exact am_ri (S := sF_shortKindOf) (by unfold rF_shortKindOf; simp only [if_neg h1, if_neg h8, if_neg h12, if_neg h13]; try rfl) rfl rfl rfl
noncomputable def rF_kindOf (p : Int32) : Int32 := if (rF_isLong p) = (0 : Int32) then (rF_shortKindOf p) else if (p &&& (127 : Int32)) = (3 : Int32) then if ((Int32.toUInt32 p >>> (Int32.toUInt32 (12 : Int32) &&& Int32.toUInt32 31)).toInt32 &&& (7 : Int32)) = (2 : Int32) then (6 : Int32) else (-1 : Int32) else if (p &&& (127 : Int32)) = (19 : Int32) then if ((Int32.toUInt32 p >>> (Int32.toUInt32 (12 : Int32) &&& Int32.toUInt32 31)).toInt32 &&& (7 : Int32)) = (0 : Int32) then (4 : Int32) else (-1 : Int32) else if (p &&& (127 : Int32)) = (35 : Int32) then if ((Int32.toUInt32 p >>> (Int32.toUInt32 (12 : Int32) &&& Int32.toUInt32 31)).toInt32 &&& (7 : Int32)) = (2 : Int32) then (7 : Int32) else (-1 : Int32) else if (p &&& (127 : Int32)) = (51 : Int32) then (rF_arithmeticKindOf (Int32.toUInt32 p >>> (Int32.toUInt32 (25 : Int32) &&& Int32.toUInt32 31)).toInt32 ((Int32.toUInt32 p >>> (Int32.toUInt32 (12 : Int32) &&& Int32.toUInt32 31)).toInt32 &&& (7 : Int32))) else if (p &&& (127 : Int32)) = (55 : Int32) then (5 : Int32) else if (p &&& (127 : Int32)) = (99 : Int32) then (rF_branchKindOf ((Int32.toUInt32 p >>> (Int32.toUInt32 (12 : Int32) &&& Int32.toUInt32 31)).toInt32 &&& (7 : Int32))) else if (p &&& (127 : Int32)) = (103 : Int32) then if ((Int32.toUInt32 p >>> (Int32.toUInt32 (12 : Int32) &&& Int32.toUInt32 31)).toInt32 &&& (7 : Int32)) = (0 : Int32) then (12 : Int32) else (-1 : Int32) else if (p &&& (127 : Int32)) = (111 : Int32) then (11 : Int32) else (-1 : Int32)
set_option maxHeartbeats 4000000 in
set_option maxRecDepth 100000 in
theorem eF_kindOf (p : Int32) (ab : List am_Cl) : am_Ev sF_kindOf [.int p] ab (some (.int (rF_kindOf p))) ab := by
  refine am_Ev_of cwF_kindOf rfl rfl rfl (am_wp_T gdF_kindOf 400 ?_)
  refine am_call (eF_isLong p _) ?_
  refine am_split (fun h1 => ?_) (fun h1 => ?_)
  · skip
    refine am_call (eF_shortKindOf p _) ?_
    exact am_ri (S := sF_kindOf) (by unfold rF_kindOf; simp only [if_pos h1]; try rfl) rfl rfl rfl
  · skip
    refine am_split (fun h2 => ?_) (fun h2 => ?_)
    · skip
      refine am_split (fun h3 => ?_) (fun h3 => ?_)
      · skip
        exact am_ri (S := sF_kindOf) (by unfold rF_kindOf; simp only [if_neg h1, if_pos h2, if_pos h3]; try rfl) rfl rfl rfl
      · skip
        exact am_ri (S := sF_kindOf) (by unfold rF_kindOf; simp only [if_neg h1, if_pos h2, if_neg h3]; try rfl) rfl rfl rfl
    · skip
      refine am_split (fun h4 => ?_) (fun h4 => ?_)
      · skip
        refine am_split (fun h5 => ?_) (fun h5 => ?_)
        · skip
          exact am_ri (S := sF_kindOf) (by unfold rF_kindOf; simp only [if_neg h1, if_neg h2, if_pos h4, if_pos h5]; try rfl) rfl rfl rfl
        · skip
          exact am_ri (S := sF_kindOf) (by unfold rF_kindOf; simp only [if_neg h1, if_neg h2, if_pos h4, if_neg h5]; try rfl) rfl rfl rfl
      · skip
        refine am_split (fun h6 => ?_) (fun h6 => ?_)
        · skip
          refine am_split (fun h7 => ?_) (fun h7 => ?_)
          · skip
            exact am_ri (S := sF_kindOf) (by unfold rF_kindOf; simp only [if_neg h1, if_neg h2, if_neg h4, if_pos h6, if_pos h7]; try rfl) rfl rfl rfl
          · skip
            exact am_ri (S := sF_kindOf) (by unfold rF_kindOf; simp only [if_neg h1, if_neg h2, if_neg h4, if_pos h6, if_neg h7]; try rfl) rfl rfl rfl
        · skip
          refine am_split (fun h8 => ?_) (fun h8 => ?_)
          · skip
            refine am_call (eF_arithmeticKindOf (Int32.toUInt32 p >>> (Int32.toUInt32 (25 : Int32) &&& Int32.toUInt32 31)).toInt32 ((Int32.toUInt32 p >>> (Int32.toUInt32 (12 : Int32) &&& Int32.toUInt32 31)).toInt32 &&& (7 : Int32)) _) ?_
            exact am_ri (S := sF_kindOf) (by unfold rF_kindOf; simp only [if_neg h1, if_neg h2, if_neg h4, if_neg h6, if_pos h8]; try rfl) rfl rfl rfl
          · skip
            refine am_split (fun h9 => ?_) (fun h9 => ?_)
            · skip
              exact am_ri (S := sF_kindOf) (by unfold rF_kindOf; simp only [if_neg h1, if_neg h2, if_neg h4, if_neg h6, if_neg h8, if_pos h9]; try rfl) rfl rfl rfl
            · skip
              refine am_split (fun h10 => ?_) (fun h10 => ?_)
              · skip
                refine am_call (eF_branchKindOf ((Int32.toUInt32 p >>> (Int32.toUInt32 (12 : Int32) &&& Int32.toUInt32 31)).toInt32 &&& (7 : Int32)) _) ?_
                exact am_ri (S := sF_kindOf) (by unfold rF_kindOf; simp only [if_neg h1, if_neg h2, if_neg h4, if_neg h6, if_neg h8, if_neg h9, if_pos h10]; try rfl) rfl rfl rfl
              · skip
                refine am_split (fun h11 => ?_) (fun h11 => ?_)
                · skip
                  refine am_split (fun h12 => ?_) (fun h12 => ?_)
                  · skip
                    exact am_ri (S := sF_kindOf) (by unfold rF_kindOf; simp only [if_neg h1, if_neg h2, if_neg h4, if_neg h6, if_neg h8, if_neg h9, if_neg h10, if_pos h11, if_pos h12]; try rfl) rfl rfl rfl
                  · skip
                    exact am_ri (S := sF_kindOf) (by unfold rF_kindOf; simp only [if_neg h1, if_neg h2, if_neg h4, if_neg h6, if_neg h8, if_neg h9, if_neg h10, if_pos h11, if_neg h12]; try rfl) rfl rfl rfl
                · skip
                  refine am_split (fun h13 => ?_) (fun h13 => ?_)
                  · skip
                    exact am_ri (S := sF_kindOf) (by unfold rF_kindOf; simp only [if_neg h1, if_neg h2, if_neg h4, if_neg h6, if_neg h8, if_neg h9, if_neg h10, if_neg h11, if_pos h13]; try rfl) rfl rfl rfl
                  · skip
                    exact am_ri (S := sF_kindOf) (by unfold rF_kindOf; simp only [if_neg h1, if_neg h2, if_neg h4, if_neg h6, if_neg h8, if_neg h9, if_neg h10, if_neg h11, if_neg h13]; try rfl) rfl rfl rfl
noncomputable def rF_firstOf (p q : Int32) : Int32 := if p = (7 : Int32) then (rF_highRegister q) else if p = (8 : Int32) then (rF_middleRegister q) else if p = (9 : Int32) then (rF_middleRegister q) else if p = (10 : Int32) then (rF_middleRegister q) else (rF_lowRegister q)
set_option maxHeartbeats 4000000 in
set_option maxRecDepth 100000 in
theorem eF_firstOf (p q : Int32) (ab : List am_Cl) : am_Ev sF_firstOf [.int p, .int q] ab (some (.int (rF_firstOf p q))) ab := by
  refine am_Ev_of cwF_firstOf rfl rfl rfl (am_wp_T gdF_firstOf 400 ?_)
  refine am_split (fun h1 => ?_) (fun h1 => ?_)
  · skip
    refine am_call (eF_highRegister q _) ?_
    exact am_ri (S := sF_firstOf) (by unfold rF_firstOf; simp only [if_pos h1]; try rfl) rfl rfl rfl
  · skip
    refine am_split (fun h2 => ?_) (fun h2 => ?_)
    · skip
      refine am_call (eF_middleRegister q _) ?_
      exact am_ri (S := sF_firstOf) (by unfold rF_firstOf; simp only [if_neg h1, if_pos h2]; try rfl) rfl rfl rfl
    · skip
      refine am_split (fun h3 => ?_) (fun h3 => ?_)
      · skip
        refine am_call (eF_middleRegister q _) ?_
        exact am_ri (S := sF_firstOf) (by unfold rF_firstOf; simp only [if_neg h1, if_neg h2, if_pos h3]; try rfl) rfl rfl rfl
      · skip
        refine am_split (fun h4 => ?_) (fun h4 => ?_)
        · skip
          refine am_call (eF_middleRegister q _) ?_
          exact am_ri (S := sF_firstOf) (by unfold rF_firstOf; simp only [if_neg h1, if_neg h2, if_neg h3, if_pos h4]; try rfl) rfl rfl rfl
        · skip
          refine am_call (eF_lowRegister q _) ?_
          exact am_ri (S := sF_firstOf) (by unfold rF_firstOf; simp only [if_neg h1, if_neg h2, if_neg h3, if_neg h4]; try rfl) rfl rfl rfl
noncomputable def rF_secondOf (p q : Int32) : Int32 := if p = (5 : Int32) then (Int32.toUInt32 q >>> (Int32.toUInt32 (12 : Int32) &&& Int32.toUInt32 31)).toInt32 else if p = (6 : Int32) then (rF_middleRegister q) else if p = (7 : Int32) then (rF_middleRegister q) else if p = (8 : Int32) then (rF_highRegister q) else if p = (9 : Int32) then (rF_highRegister q) else if p = (10 : Int32) then (rF_highRegister q) else if p = (11 : Int32) then (rF_jumpOffset q) else if p = (12 : Int32) then (rF_middleRegister q) else if p = (13 : Int32) then (rF_shortNumber q) else if p = (14 : Int32) then (rF_shortRegister q) else (rF_middleRegister q)
set_option maxHeartbeats 4000000 in
set_option maxRecDepth 100000 in
theorem eF_secondOf (p q : Int32) (ab : List am_Cl) : am_Ev sF_secondOf [.int p, .int q] ab (some (.int (rF_secondOf p q))) ab := by
  refine am_Ev_of cwF_secondOf rfl rfl rfl (am_wp_T gdF_secondOf 400 ?_)
  refine am_split (fun h1 => ?_) (fun h1 => ?_)
  · skip
    exact am_ri (S := sF_secondOf) (by unfold rF_secondOf; simp only [if_pos h1]; try rfl) rfl rfl rfl
  · skip
    refine am_split (fun h2 => ?_) (fun h2 => ?_)
    · skip
      refine am_call (eF_middleRegister q _) ?_
      exact am_ri (S := sF_secondOf) (by unfold rF_secondOf; simp only [if_neg h1, if_pos h2]; try rfl) rfl rfl rfl
    · skip
      refine am_split (fun h3 => ?_) (fun h3 => ?_)
      · skip
        refine am_call (eF_middleRegister q _) ?_
        exact am_ri (S := sF_secondOf) (by unfold rF_secondOf; simp only [if_neg h1, if_neg h2, if_pos h3]; try rfl) rfl rfl rfl
      · skip
        refine am_split (fun h4 => ?_) (fun h4 => ?_)
        · skip
          refine am_call (eF_highRegister q _) ?_
          exact am_ri (S := sF_secondOf) (by unfold rF_secondOf; simp only [if_neg h1, if_neg h2, if_neg h3, if_pos h4]; try rfl) rfl rfl rfl
        · skip
          refine am_split (fun h5 => ?_) (fun h5 => ?_)
          · skip
            refine am_call (eF_highRegister q _) ?_
            exact am_ri (S := sF_secondOf) (by unfold rF_secondOf; simp only [if_neg h1, if_neg h2, if_neg h3, if_neg h4, if_pos h5]; try rfl) rfl rfl rfl
          · skip
            refine am_split (fun h6 => ?_) (fun h6 => ?_)
            · skip
              refine am_call (eF_highRegister q _) ?_
              exact am_ri (S := sF_secondOf) (by unfold rF_secondOf; simp only [if_neg h1, if_neg h2, if_neg h3, if_neg h4, if_neg h5, if_pos h6]; try rfl) rfl rfl rfl
            · skip
              refine am_split (fun h7 => ?_) (fun h7 => ?_)
              · skip
                refine am_call (eF_jumpOffset q _) ?_
                exact am_ri (S := sF_secondOf) (by unfold rF_secondOf; simp only [if_neg h1, if_neg h2, if_neg h3, if_neg h4, if_neg h5, if_neg h6, if_pos h7]; try rfl) rfl rfl rfl
              · skip
                refine am_split (fun h8 => ?_) (fun h8 => ?_)
                · skip
                  refine am_call (eF_middleRegister q _) ?_
                  exact am_ri (S := sF_secondOf) (by unfold rF_secondOf; simp only [if_neg h1, if_neg h2, if_neg h3, if_neg h4, if_neg h5, if_neg h6, if_neg h7, if_pos h8]; try rfl) rfl rfl rfl
                · skip
                  refine am_split (fun h9 => ?_) (fun h9 => ?_)
                  · skip
                    refine am_call (eF_shortNumber q _) ?_
                    exact am_ri (S := sF_secondOf) (by unfold rF_secondOf; simp only [if_neg h1, if_neg h2, if_neg h3, if_neg h4, if_neg h5, if_neg h6, if_neg h7, if_neg h8, if_pos h9]; try rfl) rfl rfl rfl
                  · skip
                    refine am_split (fun h10 => ?_) (fun h10 => ?_)
                    · skip
                      refine am_call (eF_shortRegister q _) ?_
                      exact am_ri (S := sF_secondOf) (by unfold rF_secondOf; simp only [if_neg h1, if_neg h2, if_neg h3, if_neg h4, if_neg h5, if_neg h6, if_neg h7, if_neg h8, if_neg h9, if_pos h10]; try rfl) rfl rfl rfl
                    · skip
                      refine am_call (eF_middleRegister q _) ?_
                      exact am_ri (S := sF_secondOf) (by unfold rF_secondOf; simp only [if_neg h1, if_neg h2, if_neg h3, if_neg h4, if_neg h5, if_neg h6, if_neg h7, if_neg h8, if_neg h9, if_neg h10]; try rfl) rfl rfl rfl
noncomputable def rF_thirdOf (p q : Int32) : Int32 := if p = (0 : Int32) then (rF_highRegister q) else if p = (1 : Int32) then (rF_highRegister q) else if p = (2 : Int32) then (rF_highRegister q) else if p = (3 : Int32) then (rF_highRegister q) else if p = (4 : Int32) then (q >>> ((20 : Int32) &&& 31)) else if p = (5 : Int32) then (0 : Int32) else if p = (6 : Int32) then (q >>> ((20 : Int32) &&& 31)) else if p = (7 : Int32) then (((q >>> ((25 : Int32) &&& 31)) <<< ((5 : Int32) &&& 31)) ||| (rF_lowRegister q)) else if p = (8 : Int32) then (rF_branchOffset q) else if p = (9 : Int32) then (rF_branchOffset q) else if p = (10 : Int32) then (rF_branchOffset q) else if p = (11 : Int32) then (0 : Int32) else if p = (12 : Int32) then (q >>> ((20 : Int32) &&& 31)) else (0 : Int32)
set_option maxHeartbeats 4000000 in
set_option maxRecDepth 100000 in
theorem eF_thirdOf (p q : Int32) (ab : List am_Cl) : am_Ev sF_thirdOf [.int p, .int q] ab (some (.int (rF_thirdOf p q))) ab := by
  refine am_Ev_of cwF_thirdOf rfl rfl rfl (am_wp_T gdF_thirdOf 400 ?_)
  refine am_split (fun h1 => ?_) (fun h1 => ?_)
  · skip
    refine am_call (eF_highRegister q _) ?_
    exact am_ri (S := sF_thirdOf) (by unfold rF_thirdOf; simp only [if_pos h1]; try rfl) rfl rfl rfl
  · skip
    refine am_split (fun h2 => ?_) (fun h2 => ?_)
    · skip
      refine am_call (eF_highRegister q _) ?_
      exact am_ri (S := sF_thirdOf) (by unfold rF_thirdOf; simp only [if_neg h1, if_pos h2]; try rfl) rfl rfl rfl
    · skip
      refine am_split (fun h3 => ?_) (fun h3 => ?_)
      · skip
        refine am_call (eF_highRegister q _) ?_
        exact am_ri (S := sF_thirdOf) (by unfold rF_thirdOf; simp only [if_neg h1, if_neg h2, if_pos h3]; try rfl) rfl rfl rfl
      · skip
        refine am_split (fun h4 => ?_) (fun h4 => ?_)
        · skip
          refine am_call (eF_highRegister q _) ?_
          exact am_ri (S := sF_thirdOf) (by unfold rF_thirdOf; simp only [if_neg h1, if_neg h2, if_neg h3, if_pos h4]; try rfl) rfl rfl rfl
        · skip
          refine am_split (fun h5 => ?_) (fun h5 => ?_)
          · skip
            exact am_ri (S := sF_thirdOf) (by unfold rF_thirdOf; simp only [if_neg h1, if_neg h2, if_neg h3, if_neg h4, if_pos h5]; try rfl) rfl rfl rfl
          · skip
            refine am_split (fun h6 => ?_) (fun h6 => ?_)
            · skip
              exact am_ri (S := sF_thirdOf) (by unfold rF_thirdOf; simp only [if_neg h1, if_neg h2, if_neg h3, if_neg h4, if_neg h5, if_pos h6]; try rfl) rfl rfl rfl
            · skip
              refine am_split (fun h7 => ?_) (fun h7 => ?_)
              · skip
                exact am_ri (S := sF_thirdOf) (by unfold rF_thirdOf; simp only [if_neg h1, if_neg h2, if_neg h3, if_neg h4, if_neg h5, if_neg h6, if_pos h7]; try rfl) rfl rfl rfl
              · skip
                refine am_split (fun h8 => ?_) (fun h8 => ?_)
                · skip
                  refine am_call (eF_lowRegister q _) ?_
                  exact am_ri (S := sF_thirdOf) (by unfold rF_thirdOf; simp only [if_neg h1, if_neg h2, if_neg h3, if_neg h4, if_neg h5, if_neg h6, if_neg h7, if_pos h8]; try rfl) rfl rfl rfl
                · skip
                  refine am_split (fun h9 => ?_) (fun h9 => ?_)
                  · skip
                    refine am_call (eF_branchOffset q _) ?_
                    exact am_ri (S := sF_thirdOf) (by unfold rF_thirdOf; simp only [if_neg h1, if_neg h2, if_neg h3, if_neg h4, if_neg h5, if_neg h6, if_neg h7, if_neg h8, if_pos h9]; try rfl) rfl rfl rfl
                  · skip
                    refine am_split (fun h10 => ?_) (fun h10 => ?_)
                    · skip
                      refine am_call (eF_branchOffset q _) ?_
                      exact am_ri (S := sF_thirdOf) (by unfold rF_thirdOf; simp only [if_neg h1, if_neg h2, if_neg h3, if_neg h4, if_neg h5, if_neg h6, if_neg h7, if_neg h8, if_neg h9, if_pos h10]; try rfl) rfl rfl rfl
                    · skip
                      refine am_split (fun h11 => ?_) (fun h11 => ?_)
                      · skip
                        refine am_call (eF_branchOffset q _) ?_
                        exact am_ri (S := sF_thirdOf) (by unfold rF_thirdOf; simp only [if_neg h1, if_neg h2, if_neg h3, if_neg h4, if_neg h5, if_neg h6, if_neg h7, if_neg h8, if_neg h9, if_neg h10, if_pos h11]; try rfl) rfl rfl rfl
                      · skip
                        refine am_split (fun h12 => ?_) (fun h12 => ?_)
                        · skip
                          exact am_ri (S := sF_thirdOf) (by unfold rF_thirdOf; simp only [if_neg h1, if_neg h2, if_neg h3, if_neg h4, if_neg h5, if_neg h6, if_neg h7, if_neg h8, if_neg h9, if_neg h10, if_neg h11, if_pos h12]; try rfl) rfl rfl rfl
                        · skip
                          refine am_split (fun h13 => ?_) (fun h13 => ?_)
                          · skip
                            exact am_ri (S := sF_thirdOf) (by unfold rF_thirdOf; simp only [if_neg h1, if_neg h2, if_neg h3, if_neg h4, if_neg h5, if_neg h6, if_neg h7, if_neg h8, if_neg h9, if_neg h10, if_neg h11, if_neg h12, if_pos h13]; try rfl) rfl rfl rfl
                          · skip
                            exact am_ri (S := sF_thirdOf) (by unfold rF_thirdOf; simp only [if_neg h1, if_neg h2, if_neg h3, if_neg h4, if_neg h5, if_neg h6, if_neg h7, if_neg h8, if_neg h9, if_neg h10, if_neg h11, if_neg h12, if_neg h13]; try rfl) rfl rfl rfl
noncomputable def rP_has (p q : Int32) : Int32 := if p < (0 : Int32) then (0 : Int32) else if q ≤ p then (0 : Int32) else if (20 : Int32) ≤ p then (0 : Int32) else (1 : Int32)
set_option maxHeartbeats 4000000 in
set_option maxRecDepth 100000 in
theorem eP_has (p q : Int32) (ab : List am_Cl) : am_Ev sP_has [.int p, .int q] ab (some (.int (rP_has p q))) ab := by
  refine am_Ev_of cwP_has rfl rfl rfl (am_wp_T gdP_has 400 ?_)
  refine am_split (fun h1 => ?_) (fun h1 => ?_)
  · skip
    exact am_ri (S := sP_has) (by unfold rP_has; simp only [if_pos h1]; try rfl) rfl rfl rfl
  · skip
    refine am_split (fun h2 => ?_) (fun h2 => ?_)
    · skip
      exact am_ri (S := sP_has) (by unfold rP_has; simp only [if_neg h1, if_pos h2]; try rfl) rfl rfl rfl
    · skip
      refine am_split (fun h3 => ?_) (fun h3 => ?_)
      · skip
        exact am_ri (S := sP_has) (by unfold rP_has; simp only [if_neg h1, if_neg h2, if_pos h3]; try rfl) rfl rfl rfl
      · skip
        exact am_ri (S := sP_has) (by unfold rP_has; simp only [if_neg h1, if_neg h2, if_neg h3]; try rfl) rfl rfl rfl
theorem zoP_has (p q : Int32) : rP_has p q = 0 ∨ rP_has p q = 1 := by
  unfold rP_has
  repeat' (first | with_reducible refine zo_ite ?_ ?_ | with_reducible exact Or.inl rfl | with_reducible exact Or.inr rfl)
noncomputable def rP_isFree (p : Int32) : Int32 := (rX_within p (0 : Int32) (26 : Int32))
set_option maxHeartbeats 4000000 in
set_option maxRecDepth 100000 in
theorem eP_isFree (p : Int32) (ab : List am_Cl) : am_Ev sP_isFree [.int p] ab (some (.int (rP_isFree p))) ab := by
  refine am_Ev_of cwP_isFree rfl rfl rfl (am_wp_T gdP_isFree 400 ?_)
  refine am_call (eX_within p (0 : Int32) (26 : Int32) _) ?_
  exact am_ri (S := sP_isFree) rfl rfl rfl (am_nz (zoX_within p (0 : Int32) (26 : Int32)))
theorem zoP_isFree (p : Int32) : rP_isFree p = 0 ∨ rP_isFree p = 1 := by
  unfold rP_isFree
  repeat' (first | with_reducible refine zo_ite ?_ ?_ | with_reducible exact zoX_within .. | with_reducible exact Or.inl rfl | with_reducible exact Or.inr rfl)
noncomputable def rP_mayBeTarget (p : Int32) : Int32 := (rX_within p (0 : Int32) (20 : Int32))
set_option maxHeartbeats 4000000 in
set_option maxRecDepth 100000 in
theorem eP_mayBeTarget (p : Int32) (ab : List am_Cl) : am_Ev sP_mayBeTarget [.int p] ab (some (.int (rP_mayBeTarget p))) ab := by
  refine am_Ev_of cwP_mayBeTarget rfl rfl rfl (am_wp_T gdP_mayBeTarget 400 ?_)
  refine am_call (eX_within p (0 : Int32) (20 : Int32) _) ?_
  exact am_ri (S := sP_mayBeTarget) rfl rfl rfl (am_nz (zoX_within p (0 : Int32) (20 : Int32)))
theorem zoP_mayBeTarget (p : Int32) : rP_mayBeTarget p = 0 ∨ rP_mayBeTarget p = 1 := by
  unfold rP_mayBeTarget
  repeat' (first | with_reducible refine zo_ite ?_ ?_ | with_reducible exact zoX_within .. | with_reducible exact Or.inl rfl | with_reducible exact Or.inr rfl)
noncomputable def rP_allows (p q r s : Int32) : Int32 := if p = (8 : Int32) then if (rP_isFree q) = (0 : Int32) then (0 : Int32) else if (rP_isFree r) = (0 : Int32) then (0 : Int32) else if (rP_mayBeTarget s) = (0 : Int32) then (0 : Int32) else (1 : Int32) else if p = (9 : Int32) then if (rP_isFree q) = (0 : Int32) then (0 : Int32) else if (rP_isFree r) = (0 : Int32) then (0 : Int32) else if (rP_mayBeTarget s) = (0 : Int32) then (0 : Int32) else (1 : Int32) else if p = (10 : Int32) then if (rP_isFree q) = (0 : Int32) then (0 : Int32) else if (rP_isFree r) = (0 : Int32) then (0 : Int32) else if (rP_mayBeTarget s) = (0 : Int32) then (0 : Int32) else (1 : Int32) else if p = (11 : Int32) then if (rP_isFree q) = (0 : Int32) then (0 : Int32) else if (rP_mayBeTarget r) = (0 : Int32) then (0 : Int32) else (1 : Int32) else if p = (12 : Int32) then if (rP_isFree q) = (0 : Int32) then (0 : Int32) else if (rP_isFree r) = (0 : Int32) then (0 : Int32) else (1 : Int32) else if p = (13 : Int32) then (rF_plainFits p q r s (26 : Int32)) else if p = (14 : Int32) then (rF_plainFits p q r s (26 : Int32)) else if p = (15 : Int32) then (rX_within q (0 : Int32) (2 : Int32)) else if p = (16 : Int32) then if (rP_isFree q) = (0 : Int32) then (0 : Int32) else if (rP_mayBeTarget r) = (0 : Int32) then (0 : Int32) else (1 : Int32) else (rF_plainFits p q r s (26 : Int32))
set_option maxHeartbeats 4000000 in
set_option maxRecDepth 100000 in
theorem eP_allows (p q r s : Int32) (ab : List am_Cl) : am_Ev sP_allows [.int p, .int q, .int r, .int s] ab (some (.int (rP_allows p q r s))) ab := by
  refine am_Ev_of cwP_allows rfl rfl rfl (am_wp_T gdP_allows 400 ?_)
  refine am_split (fun h1 => ?_) (fun h1 => ?_)
  · skip
    refine am_call (eP_isFree q _) ?_
    refine am_split (fun h2 => ?_) (fun h2 => ?_)
    · skip
      exact am_ri (S := sP_allows) (by unfold rP_allows; simp only [if_pos h1, if_pos h2]; try rfl) rfl rfl rfl
    · skip
      refine am_call (eP_isFree r _) ?_
      refine am_split (fun h3 => ?_) (fun h3 => ?_)
      · skip
        exact am_ri (S := sP_allows) (by unfold rP_allows; simp only [if_pos h1, if_neg h2, if_pos h3]; try rfl) rfl rfl rfl
      · skip
        refine am_call (eP_mayBeTarget s _) ?_
        refine am_split (fun h4 => ?_) (fun h4 => ?_)
        · skip
          exact am_ri (S := sP_allows) (by unfold rP_allows; simp only [if_pos h1, if_neg h2, if_neg h3, if_pos h4]; try rfl) rfl rfl rfl
        · skip
          exact am_ri (S := sP_allows) (by unfold rP_allows; simp only [if_pos h1, if_neg h2, if_neg h3, if_neg h4]; try rfl) rfl rfl rfl
  · skip
    refine am_split (fun h5 => ?_) (fun h5 => ?_)
    · skip
      refine am_call (eP_isFree q _) ?_
      refine am_split (fun h6 => ?_) (fun h6 => ?_)
      · skip
        exact am_ri (S := sP_allows) (by unfold rP_allows; simp only [if_neg h1, if_pos h5, if_pos h6]; try rfl) rfl rfl rfl
      · skip
        refine am_call (eP_isFree r _) ?_
        refine am_split (fun h7 => ?_) (fun h7 => ?_)
        · skip
          exact am_ri (S := sP_allows) (by unfold rP_allows; simp only [if_neg h1, if_pos h5, if_neg h6, if_pos h7]; try rfl) rfl rfl rfl
        · skip
          refine am_call (eP_mayBeTarget s _) ?_
          refine am_split (fun h8 => ?_) (fun h8 => ?_)
          · skip
            exact am_ri (S := sP_allows) (by unfold rP_allows; simp only [if_neg h1, if_pos h5, if_neg h6, if_neg h7, if_pos h8]; try rfl) rfl rfl rfl
          · skip
            exact am_ri (S := sP_allows) (by unfold rP_allows; simp only [if_neg h1, if_pos h5, if_neg h6, if_neg h7, if_neg h8]; try rfl) rfl rfl rfl
    · skip
      refine am_split (fun h9 => ?_) (fun h9 => ?_)
      · skip
        refine am_call (eP_isFree q _) ?_
        refine am_split (fun h10 => ?_) (fun h10 => ?_)
        · skip
          exact am_ri (S := sP_allows) (by unfold rP_allows; simp only [if_neg h1, if_neg h5, if_pos h9, if_pos h10]; try rfl) rfl rfl rfl
        · skip
          refine am_call (eP_isFree r _) ?_
          refine am_split (fun h11 => ?_) (fun h11 => ?_)
          · skip
            exact am_ri (S := sP_allows) (by unfold rP_allows; simp only [if_neg h1, if_neg h5, if_pos h9, if_neg h10, if_pos h11]; try rfl) rfl rfl rfl
          · skip
            refine am_call (eP_mayBeTarget s _) ?_
            refine am_split (fun h12 => ?_) (fun h12 => ?_)
            · skip
              exact am_ri (S := sP_allows) (by unfold rP_allows; simp only [if_neg h1, if_neg h5, if_pos h9, if_neg h10, if_neg h11, if_pos h12]; try rfl) rfl rfl rfl
            · skip
              exact am_ri (S := sP_allows) (by unfold rP_allows; simp only [if_neg h1, if_neg h5, if_pos h9, if_neg h10, if_neg h11, if_neg h12]; try rfl) rfl rfl rfl
      · skip
        refine am_split (fun h13 => ?_) (fun h13 => ?_)
        · skip
          refine am_call (eP_isFree q _) ?_
          refine am_split (fun h14 => ?_) (fun h14 => ?_)
          · skip
            exact am_ri (S := sP_allows) (by unfold rP_allows; simp only [if_neg h1, if_neg h5, if_neg h9, if_pos h13, if_pos h14]; try rfl) rfl rfl rfl
          · skip
            refine am_call (eP_mayBeTarget r _) ?_
            refine am_split (fun h15 => ?_) (fun h15 => ?_)
            · skip
              exact am_ri (S := sP_allows) (by unfold rP_allows; simp only [if_neg h1, if_neg h5, if_neg h9, if_pos h13, if_neg h14, if_pos h15]; try rfl) rfl rfl rfl
            · skip
              exact am_ri (S := sP_allows) (by unfold rP_allows; simp only [if_neg h1, if_neg h5, if_neg h9, if_pos h13, if_neg h14, if_neg h15]; try rfl) rfl rfl rfl
        · skip
          refine am_split (fun h16 => ?_) (fun h16 => ?_)
          · skip
            refine am_call (eP_isFree q _) ?_
            refine am_split (fun h17 => ?_) (fun h17 => ?_)
            · skip
              exact am_ri (S := sP_allows) (by unfold rP_allows; simp only [if_neg h1, if_neg h5, if_neg h9, if_neg h13, if_pos h16, if_pos h17]; try rfl) rfl rfl rfl
            · skip
              refine am_call (eP_isFree r _) ?_
              refine am_split (fun h18 => ?_) (fun h18 => ?_)
              · skip
                exact am_ri (S := sP_allows) (by unfold rP_allows; simp only [if_neg h1, if_neg h5, if_neg h9, if_neg h13, if_pos h16, if_neg h17, if_pos h18]; try rfl) rfl rfl rfl
              · skip
                exact am_ri (S := sP_allows) (by unfold rP_allows; simp only [if_neg h1, if_neg h5, if_neg h9, if_neg h13, if_pos h16, if_neg h17, if_neg h18]; try rfl) rfl rfl rfl
          · skip
            refine am_split (fun h19 => ?_) (fun h19 => ?_)
            · skip
              refine am_call (eF_plainFits p q r s (26 : Int32) _) ?_
              exact am_ri (S := sP_allows) (by unfold rP_allows; simp only [if_neg h1, if_neg h5, if_neg h9, if_neg h13, if_neg h16, if_pos h19]; try rfl) rfl rfl (am_nz (zoF_plainFits p q r s (26 : Int32)))
            · skip
              refine am_split (fun h20 => ?_) (fun h20 => ?_)
              · skip
                refine am_call (eF_plainFits p q r s (26 : Int32) _) ?_
                exact am_ri (S := sP_allows) (by unfold rP_allows; simp only [if_neg h1, if_neg h5, if_neg h9, if_neg h13, if_neg h16, if_neg h19, if_pos h20]; try rfl) rfl rfl (am_nz (zoF_plainFits p q r s (26 : Int32)))
              · skip
                refine am_split (fun h21 => ?_) (fun h21 => ?_)
                · skip
                  refine am_call (eX_within q (0 : Int32) (2 : Int32) _) ?_
                  exact am_ri (S := sP_allows) (by unfold rP_allows; simp only [if_neg h1, if_neg h5, if_neg h9, if_neg h13, if_neg h16, if_neg h19, if_neg h20, if_pos h21]; try rfl) rfl rfl (am_nz (zoX_within q (0 : Int32) (2 : Int32)))
                · skip
                  refine am_split (fun h22 => ?_) (fun h22 => ?_)
                  · skip
                    refine am_call (eP_isFree q _) ?_
                    refine am_split (fun h23 => ?_) (fun h23 => ?_)
                    · skip
                      exact am_ri (S := sP_allows) (by unfold rP_allows; simp only [if_neg h1, if_neg h5, if_neg h9, if_neg h13, if_neg h16, if_neg h19, if_neg h20, if_neg h21, if_pos h22, if_pos h23]; try rfl) rfl rfl rfl
                    · skip
                      refine am_call (eP_mayBeTarget r _) ?_
                      refine am_split (fun h24 => ?_) (fun h24 => ?_)
                      · skip
                        exact am_ri (S := sP_allows) (by unfold rP_allows; simp only [if_neg h1, if_neg h5, if_neg h9, if_neg h13, if_neg h16, if_neg h19, if_neg h20, if_neg h21, if_pos h22, if_neg h23, if_pos h24]; try rfl) rfl rfl rfl
                      · skip
                        exact am_ri (S := sP_allows) (by unfold rP_allows; simp only [if_neg h1, if_neg h5, if_neg h9, if_neg h13, if_neg h16, if_neg h19, if_neg h20, if_neg h21, if_pos h22, if_neg h23, if_neg h24]; try rfl) rfl rfl rfl
                  · skip
                    refine am_call (eF_plainFits p q r s (26 : Int32) _) ?_
                    exact am_ri (S := sP_allows) (by unfold rP_allows; simp only [if_neg h1, if_neg h5, if_neg h9, if_neg h13, if_neg h16, if_neg h19, if_neg h20, if_neg h21, if_neg h22]; try rfl) rfl rfl (am_nz (zoF_plainFits p q r s (26 : Int32)))
theorem zoP_allows (p q r s : Int32) : rP_allows p q r s = 0 ∨ rP_allows p q r s = 1 := by
  unfold rP_allows
  repeat' (first | with_reducible refine zo_ite ?_ ?_ | with_reducible exact zoF_plainFits .. | with_reducible exact zoX_within .. | with_reducible exact Or.inl rfl | with_reducible exact Or.inr rfl)
noncomputable def rL_endsBundle (p q : Int32) : Int32 := if p = (15 : Int32) then (1 : Int32) else if p = (11 : Int32) then if q = (0 : Int32) then (0 : Int32) else (1 : Int32) else if p = (12 : Int32) then if q = (0 : Int32) then (0 : Int32) else (1 : Int32) else (0 : Int32)
set_option maxHeartbeats 4000000 in
set_option maxRecDepth 100000 in
theorem eL_endsBundle (p q : Int32) (ab : List am_Cl) : am_Ev sL_endsBundle [.int p, .int q] ab (some (.int (rL_endsBundle p q))) ab := by
  refine am_Ev_of cwL_endsBundle rfl rfl rfl (am_wp_T gdL_endsBundle 400 ?_)
  refine am_split (fun h1 => ?_) (fun h1 => ?_)
  · skip
    exact am_ri (S := sL_endsBundle) (by unfold rL_endsBundle; simp only [if_pos h1]; try rfl) rfl rfl rfl
  · skip
    refine am_split (fun h2 => ?_) (fun h2 => ?_)
    · skip
      refine am_split (fun h3 => ?_) (fun h3 => ?_)
      · skip
        exact am_ri (S := sL_endsBundle) (by unfold rL_endsBundle; simp only [if_neg h1, if_pos h2, if_pos h3]; try rfl) rfl rfl rfl
      · skip
        exact am_ri (S := sL_endsBundle) (by unfold rL_endsBundle; simp only [if_neg h1, if_pos h2, if_neg h3]; try rfl) rfl rfl rfl
    · skip
      refine am_split (fun h4 => ?_) (fun h4 => ?_)
      · skip
        refine am_split (fun h5 => ?_) (fun h5 => ?_)
        · skip
          exact am_ri (S := sL_endsBundle) (by unfold rL_endsBundle; simp only [if_neg h1, if_neg h2, if_pos h4, if_pos h5]; try rfl) rfl rfl rfl
        · skip
          exact am_ri (S := sL_endsBundle) (by unfold rL_endsBundle; simp only [if_neg h1, if_neg h2, if_pos h4, if_neg h5]; try rfl) rfl rfl rfl
      · skip
        exact am_ri (S := sL_endsBundle) (by unfold rL_endsBundle; simp only [if_neg h1, if_neg h2, if_neg h4]; try rfl) rfl rfl rfl
theorem zoL_endsBundle (p q : Int32) : rL_endsBundle p q = 0 ∨ rL_endsBundle p q = 1 := by
  unfold rL_endsBundle
  repeat' (first | with_reducible refine zo_ite ?_ ?_ | with_reducible exact Or.inl rfl | with_reducible exact Or.inr rfl)
noncomputable def rL_nextWith (p q : Int32) : Int32 := if ((q - (q - q / (16 : Int32) * (16 : Int32))) + p) < q then (((q - (q - q / (16 : Int32) * (16 : Int32))) + p) + (16 : Int32)) else ((q - (q - q / (16 : Int32) * (16 : Int32))) + p)
set_option maxHeartbeats 4000000 in
set_option maxRecDepth 100000 in
theorem eL_nextWith (p q : Int32) (ab : List am_Cl) : am_Ev sL_nextWith [.int p, .int q] ab (some (.int (rL_nextWith p q))) ab := by
  refine am_Ev_of cwL_nextWith rfl rfl rfl (am_wp_T gdL_nextWith 400 ?_)
  refine am_split (fun h1 => ?_) (fun h1 => ?_)
  · skip
    exact am_ri (S := sL_nextWith) (by unfold rL_nextWith; simp only [if_pos h1]; try rfl) rfl rfl rfl
  · skip
    exact am_ri (S := sL_nextWith) (by unfold rL_nextWith; simp only [if_neg h1]; try rfl) rfl rfl rfl
noncomputable def rL_bytesOf (p : Int32) : Int32 := if p = (6 : Int32) then (16 : Int32) else if p = (7 : Int32) then (16 : Int32) else if p = (8 : Int32) then (4 : Int32) else if p = (9 : Int32) then (4 : Int32) else if p = (10 : Int32) then (4 : Int32) else if p = (11 : Int32) then (4 : Int32) else if p = (12 : Int32) then (8 : Int32) else if p = (13 : Int32) then (2 : Int32) else if p = (14 : Int32) then (2 : Int32) else (4 : Int32)
set_option maxHeartbeats 4000000 in
set_option maxRecDepth 100000 in
theorem eL_bytesOf (p : Int32) (ab : List am_Cl) : am_Ev sL_bytesOf [.int p] ab (some (.int (rL_bytesOf p))) ab := by
  refine am_Ev_of cwL_bytesOf rfl rfl rfl (am_wp_T gdL_bytesOf 400 ?_)
  refine am_split (fun h1 => ?_) (fun h1 => ?_)
  · skip
    exact am_ri (S := sL_bytesOf) (by unfold rL_bytesOf; simp only [if_pos h1]; try rfl) rfl rfl rfl
  · skip
    refine am_split (fun h2 => ?_) (fun h2 => ?_)
    · skip
      exact am_ri (S := sL_bytesOf) (by unfold rL_bytesOf; simp only [if_neg h1, if_pos h2]; try rfl) rfl rfl rfl
    · skip
      refine am_split (fun h3 => ?_) (fun h3 => ?_)
      · skip
        exact am_ri (S := sL_bytesOf) (by unfold rL_bytesOf; simp only [if_neg h1, if_neg h2, if_pos h3]; try rfl) rfl rfl rfl
      · skip
        refine am_split (fun h4 => ?_) (fun h4 => ?_)
        · skip
          exact am_ri (S := sL_bytesOf) (by unfold rL_bytesOf; simp only [if_neg h1, if_neg h2, if_neg h3, if_pos h4]; try rfl) rfl rfl rfl
        · skip
          refine am_split (fun h5 => ?_) (fun h5 => ?_)
          · skip
            exact am_ri (S := sL_bytesOf) (by unfold rL_bytesOf; simp only [if_neg h1, if_neg h2, if_neg h3, if_neg h4, if_pos h5]; try rfl) rfl rfl rfl
          · skip
            refine am_split (fun h6 => ?_) (fun h6 => ?_)
            · skip
              exact am_ri (S := sL_bytesOf) (by unfold rL_bytesOf; simp only [if_neg h1, if_neg h2, if_neg h3, if_neg h4, if_neg h5, if_pos h6]; try rfl) rfl rfl rfl
            · skip
              refine am_split (fun h7 => ?_) (fun h7 => ?_)
              · skip
                exact am_ri (S := sL_bytesOf) (by unfold rL_bytesOf; simp only [if_neg h1, if_neg h2, if_neg h3, if_neg h4, if_neg h5, if_neg h6, if_pos h7]; try rfl) rfl rfl rfl
              · skip
                refine am_split (fun h8 => ?_) (fun h8 => ?_)
                · skip
                  exact am_ri (S := sL_bytesOf) (by unfold rL_bytesOf; simp only [if_neg h1, if_neg h2, if_neg h3, if_neg h4, if_neg h5, if_neg h6, if_neg h7, if_pos h8]; try rfl) rfl rfl rfl
                · skip
                  refine am_split (fun h9 => ?_) (fun h9 => ?_)
                  · skip
                    exact am_ri (S := sL_bytesOf) (by unfold rL_bytesOf; simp only [if_neg h1, if_neg h2, if_neg h3, if_neg h4, if_neg h5, if_neg h6, if_neg h7, if_neg h8, if_pos h9]; try rfl) rfl rfl rfl
                  · skip
                    exact am_ri (S := sL_bytesOf) (by unfold rL_bytesOf; simp only [if_neg h1, if_neg h2, if_neg h3, if_neg h4, if_neg h5, if_neg h6, if_neg h7, if_neg h8, if_neg h9]; try rfl) rfl rfl rfl

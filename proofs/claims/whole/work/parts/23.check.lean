/-! walks by program: the checker, the runners -/
theorem am_callga {S : am_Sg} {as : List Value} {ab : List am_Cl} {v : Option Value} {i' : Nat → Int32} {a' : Nat → Nat → Int32} {tl : List am_Cl} {K : Option Value → List am_Cl → Prop} (h : am_Ev S as ab v (wX i' a' tl)) (k : ∀ A, A = a' → K v (wX i' A tl)) : ∃ (v : Option Value) (ab1 : List am_Cl), am_Ev S as ab v ab1 ∧ K v ab1 := ⟨v, _, h, k _ rfl⟩
theorem am_callgi {S : am_Sg} {as : List Value} {ab : List am_Cl} {v : Option Value} {i' : Nat → Int32} {a' : Nat → Nat → Int32} {tl : List am_Cl} {K : Option Value → List am_Cl → Prop} (h : am_Ev S as ab v (wX i' a' tl)) (k : ∀ I, I = i' → K v (wX I a' tl)) : ∃ (v : Option Value) (ab1 : List am_Cl), am_Ev S as ab v ab1 ∧ K v ab1 := ⟨v, _, h, k _ rfl⟩
theorem am_callza {S : am_Sg} {as : List Value} {ab : List am_Cl} {v : Option Value} {i j' : Nat → Int32} {a c' : Nat → Nat → Int32} {K : Option Value → List am_Cl → Prop} (h : am_Ev S as ab v (wX i a (wZ j' c'))) (k : ∀ C, C = c' → K v (wX i a (wZ j' C))) : ∃ (v : Option Value) (ab1 : List am_Cl), am_Ev S as ab v ab1 ∧ K v ab1 := ⟨v, _, h, k _ rfl⟩
theorem am_callzi {S : am_Sg} {as : List Value} {ab : List am_Cl} {v : Option Value} {i j' : Nat → Int32} {a c' : Nat → Nat → Int32} {K : Option Value → List am_Cl → Prop} (h : am_Ev S as ab v (wX i a (wZ j' c'))) (k : ∀ J, J = j' → K v (wX i a (wZ J c'))) : ∃ (v : Option Value) (ab1 : List am_Cl), am_Ev S as ab v ab1 ∧ K v ab1 := ⟨v, _, h, k _ rfl⟩
theorem ms_up2 {n M : Int32} {f : Nat} (h : ¬ M ≤ n) (hM : M.toInt ≤ 1000) (hm : (M.toInt - n.toInt).toNat < f + 1) : (M.toInt - (n + 2).toInt).toNat < f := by
  rw [le_i] at h
  have h2 := i32_lo n
  rw [add_i (x := n) (y := 2) (by rw [show (2 : Int32).toInt = 2 from rfl]; omega) (by rw [show (2 : Int32).toInt = 2 from rfl]; omega), show (2 : Int32).toInt = 2 from rfl]
  omega
theorem nn_up2 {n M : Int32} (h0 : 0 ≤ n.toInt) (h : ¬ M ≤ n) (hM : M.toInt ≤ 1000) : 0 ≤ (n + 2).toInt := by
  rw [le_i] at h
  rw [add_i (x := n) (y := 2) (by rw [show (2 : Int32).toInt = 2 from rfl]; omega) (by rw [show (2 : Int32).toInt = 2 from rfl]; omega), show (2 : Int32).toInt = 2 from rfl]
  omega
noncomputable def rK_firstBroken_l : Nat → (Nat → Int32) → (Nat → Nat → Int32) → Int32 → Int32 → Int32
  | 0, _, _, _, _ => 0
  | f + 1, i, a, x, n => if (i 5) ≤ n then (-1 : Int32) else if (256 : Int32) ≤ n then (-1 : Int32) else if n = x then if (rF_kindOf (rC_fetch i a n)) = (-1 : Int32) then n else if ((n - n / (16 : Int32) * (16 : Int32)) + (rF_sizeOf (rC_fetch i a n))) ≤ (16 : Int32) then (rK_firstBroken_l f i (sA a (upd (a 13) (Int32.toNatClampNeg n) (rC_fetch i a n)) 13) (n + (rF_sizeOf (rC_fetch i a n))) (n + (2 : Int32))) else n else (rK_firstBroken_l f i (sA a (upd (a 13) (Int32.toNatClampNeg n) (0 : Int32)) 13) x (n + (2 : Int32)))
noncomputable def aK_firstBroken_l : Nat → (Nat → Int32) → (Nat → Nat → Int32) → Int32 → Int32 → Nat → Nat → Int32
  | 0, _, a, _, _ => a
  | f + 1, i, a, x, n => if (i 5) ≤ n then a else if (256 : Int32) ≤ n then a else if n = x then if (rF_kindOf (rC_fetch i a n)) = (-1 : Int32) then (sA a (upd (a 13) (Int32.toNatClampNeg n) (rC_fetch i a n)) 13) else if ((n - n / (16 : Int32) * (16 : Int32)) + (rF_sizeOf (rC_fetch i a n))) ≤ (16 : Int32) then (aK_firstBroken_l f i (sA a (upd (a 13) (Int32.toNatClampNeg n) (rC_fetch i a n)) 13) (n + (rF_sizeOf (rC_fetch i a n))) (n + (2 : Int32))) else (sA a (upd (a 13) (Int32.toNatClampNeg n) (rC_fetch i a n)) 13) else (aK_firstBroken_l f i (sA a (upd (a 13) (Int32.toNatClampNeg n) (0 : Int32)) 13) x (n + (2 : Int32)))
set_option maxHeartbeats 4000000 in
set_option maxRecDepth 100000 in
theorem tK_firstBroken_l (tl : List am_Cl) : ∀ (f : Nat) (i : Nat → Int32) (a : Nat → Nat → Int32) (x n : Int32), ((256 : Int32).toInt - Int32.toInt n).toNat < f → 0 ≤ n.toInt → am_T sK_firstBroken (some (.int (rK_firstBroken_l f i a x n))) (wX i (aK_firstBroken_l f i a x n) tl) 6 [.ref 18, .int x, .int n, .retAddr 0] [] (wX i a tl) 0 0 := by
  intro f
  induction f with
  | zero => intro i a x n hm; exact absurd hm (Nat.not_lt_zero _)
  | succ f ih =>
    intro i a x n hm hk
    refine am_wu_T gdK_firstBroken [6] 400 ?_
    refine am_split (fun h1 => ?_) (fun h1 => ?_)
    · skip
      exact am_ri (S := sK_firstBroken) (by simp only [rK_firstBroken_l, if_pos h1]; try rfl) (by simp only [aK_firstBroken_l, if_pos h1]; try rfl) rfl rfl
    · skip
      refine am_split (fun h2 => ?_) (fun h2 => ?_)
      · skip
        exact am_ri (S := sK_firstBroken) (by simp only [rK_firstBroken_l, if_neg h1, if_pos h2]; try rfl) (by simp only [aK_firstBroken_l, if_neg h1, if_pos h2]; try rfl) rfl rfl
      · skip
        refine am_split (fun h3 => ?_) (fun h3 => ?_)
        · skip
          refine am_call (eC_fetch i a n tl) ?_
          refine And.intro (by exact vp_nn (M := 256) hk (by assumption) (by decide)) ?_
          refine am_split (fun _ => ?_) (fun hz => absurd h3 hz)
          refine am_call (eF_sizeOf (rC_fetch i a n) _) ?_
          refine am_call (eF_kindOf (rC_fetch i a n) _) ?_
          refine am_split (fun h4 => ?_) (fun h4 => ?_)
          · skip
            exact am_ri (S := sK_firstBroken) (by simp only [rK_firstBroken_l, if_neg h1, if_neg h2, if_pos h3, if_pos h4]; try rfl) (by simp only [aK_firstBroken_l, if_neg h1, if_neg h2, if_pos h3, if_pos h4]; try rfl) rfl rfl
          · skip
            refine am_call (eF_sizeOf (rC_fetch i a n) _) ?_
            refine am_split (fun h5 => ?_) (fun h5 => ?_)
            · skip
              exact am_Tc (am_Tw (ih i (sA a (upd (a 13) (Int32.toNatClampNeg n) (rC_fetch i a n)) 13) (n + (rF_sizeOf (rC_fetch i a n))) (n + (2 : Int32)) (ms_up2 (M := 256) (by assumption) (by decide) hm) (nn_up2 (M := 256) hk (by assumption) (by decide))) ⟨Or.inr rfl, Or.inr rfl, Or.inr rfl, Or.inl rfl, trivial⟩) (by simp only [rK_firstBroken_l, if_neg h1, if_neg h2, if_pos h3, if_neg h4, if_pos h5]) (by simp only [aK_firstBroken_l, if_neg h1, if_neg h2, if_pos h3, if_neg h4, if_pos h5])
            · skip
              exact am_ri (S := sK_firstBroken) (by simp only [rK_firstBroken_l, if_neg h1, if_neg h2, if_pos h3, if_neg h4, if_neg h5]; try rfl) (by simp only [aK_firstBroken_l, if_neg h1, if_neg h2, if_pos h3, if_neg h4, if_neg h5]; try rfl) rfl rfl
        · skip
          refine And.intro (by exact vp_nn (M := 256) hk (by assumption) (by decide)) ?_
          refine am_split (fun hz => absurd hz h3) (fun _ => ?_)
          exact am_Tc (am_Tw (ih i (sA a (upd (a 13) (Int32.toNatClampNeg n) (0 : Int32)) 13) x (n + (2 : Int32)) (ms_up2 (M := 256) (by assumption) (by decide) hm) (nn_up2 (M := 256) hk (by assumption) (by decide))) ⟨Or.inr rfl, Or.inr rfl, Or.inr rfl, Or.inl rfl, trivial⟩) (by simp only [rK_firstBroken_l, if_neg h1, if_neg h2, if_neg h3]) (by simp only [aK_firstBroken_l, if_neg h1, if_neg h2, if_neg h3])
noncomputable def rK_firstBroken (i : Nat → Int32) (a : Nat → Nat → Int32) : Int32 := (rK_firstBroken_l (((256 : Int32).toInt - Int32.toInt (48 : Int32)).toNat + 1) i a (48 : Int32) (48 : Int32))
noncomputable def aK_firstBroken (i : Nat → Int32) (a : Nat → Nat → Int32) : Nat → Nat → Int32 := (aK_firstBroken_l (((256 : Int32).toInt - Int32.toInt (48 : Int32)).toNat + 1) i a (48 : Int32) (48 : Int32))
set_option maxHeartbeats 4000000 in
set_option maxRecDepth 100000 in
theorem eK_firstBroken (i : Nat → Int32) (a : Nat → Nat → Int32) (tl : List am_Cl) : am_Ev sK_firstBroken [.ref 18] (wX i a tl) (some (.int (rK_firstBroken i a ))) (wX i (aK_firstBroken i a ) tl) := by
  refine am_Ev_of cwK_firstBroken rfl rfl rfl (am_wt_T gdK_firstBroken [6] 400 ?_)
  exact am_Tc (am_Tw (tK_firstBroken_l tl (((256 : Int32).toInt - Int32.toInt (48 : Int32)).toNat + 1) i a (48 : Int32) (48 : Int32) (Nat.lt_add_one _) (by decide)) ⟨Or.inr rfl, Or.inr rfl, Or.inr rfl, Or.inl rfl, trivial⟩) (by unfold rK_firstBroken; rfl) (by unfold aK_firstBroken; rfl)
noncomputable def rK_firstUnsafe_l : Nat → (Nat → Int32) → (Nat → Nat → Int32) → Int32 → Int32
  | 0, _, _, _ => 0
  | f + 1, i, a, n => if (i 5) ≤ n then (-1 : Int32) else if (rK_begunAt i a n) = (0 : Int32) then (rK_firstUnsafe_l f i a (n + (2 : Int32))) else if (rK_isSafe i a n (rK_begunAt i a n)) = (0 : Int32) then n else (rK_firstUnsafe_l f i a (n + (2 : Int32)))
set_option maxHeartbeats 4000000 in
set_option maxRecDepth 100000 in
theorem tK_firstUnsafe_l (tl : List am_Cl) : ∀ (f : Nat) (i : Nat → Int32) (a : Nat → Nat → Int32) (n : Int32), (Int32.toInt (i 5) - Int32.toInt n).toNat < f → (i 5).toInt ≤ 1000 → am_T sK_firstUnsafe (some (.int (rK_firstUnsafe_l f i a n))) (wX i a tl) 3 [.ref 18, .int n] [] (wX i a tl) 0 0 := by
  intro f
  induction f with
  | zero => intro i a n hm; exact absurd hm (Nat.not_lt_zero _)
  | succ f ih =>
    intro i a n hm hs
    refine am_wu_T gdK_firstUnsafe [3] 400 ?_
    refine am_split (fun h1 => ?_) (fun h1 => ?_)
    · skip
      exact am_ri (S := sK_firstUnsafe) (by simp only [rK_firstUnsafe_l, if_pos h1]; try rfl) rfl rfl rfl
    · skip
      refine am_call (eK_begunAt i a n tl) ?_
      refine am_split (fun h2 => ?_) (fun h2 => ?_)
      · skip
        exact am_Tc (am_Tw (ih i a (n + (2 : Int32)) (ms_up2 (by assumption) hs hm) hs) ⟨Or.inr rfl, Or.inr rfl, trivial⟩) (by simp only [rK_firstUnsafe_l, if_neg h1, if_pos h2]) rfl
      · skip
        refine am_call (eK_begunAt i a n tl) ?_
        refine am_call (eK_isSafe i a n (rK_begunAt i a n) tl) ?_
        refine am_split (fun h3 => ?_) (fun h3 => ?_)
        · skip
          exact am_ri (S := sK_firstUnsafe) (by simp only [rK_firstUnsafe_l, if_neg h1, if_neg h2, if_pos h3]; try rfl) rfl rfl rfl
        · skip
          exact am_Tc (am_Tw (ih i a (n + (2 : Int32)) (ms_up2 (by assumption) hs hm) hs) ⟨Or.inr rfl, Or.inr rfl, trivial⟩) (by simp only [rK_firstUnsafe_l, if_neg h1, if_neg h2, if_neg h3]) rfl
noncomputable def rK_firstUnsafe (i : Nat → Int32) (a : Nat → Nat → Int32) : Int32 := (rK_firstUnsafe_l ((Int32.toInt (i 5) - Int32.toInt (48 : Int32)).toNat + 1) i a (48 : Int32))
set_option maxHeartbeats 4000000 in
set_option maxRecDepth 100000 in
theorem eK_firstUnsafe (i : Nat → Int32) (a : Nat → Nat → Int32) (tl : List am_Cl) (hs : (i 5).toInt ≤ 1000) : am_Ev sK_firstUnsafe [.ref 18] (wX i a tl) (some (.int (rK_firstUnsafe i a ))) (wX i a tl) := by
  refine am_Ev_of cwK_firstUnsafe rfl rfl rfl (am_wt_T gdK_firstUnsafe [3] 400 ?_)
  exact am_Tc (am_Tw (tK_firstUnsafe_l tl ((Int32.toInt (i 5) - Int32.toInt (48 : Int32)).toNat + 1) i a (48 : Int32) (Nat.lt_add_one _) hs) ⟨Or.inr rfl, Or.inr rfl, trivial⟩) (by unfold rK_firstUnsafe; rfl) rfl
noncomputable def rK_firstWrong (i : Nat → Int32) (a : Nat → Nat → Int32) : Int32 := if (i 5) ≤ (48 : Int32) then (48 : Int32) else if ((i 5) - (i 5) / (16 : Int32) * (16 : Int32)) = (0 : Int32) then if (rK_firstBroken i a ) = (-1 : Int32) then (rK_firstUnsafe i (aK_firstBroken i a ) ) else (rK_firstBroken i a ) else (48 : Int32)
noncomputable def aK_firstWrong (i : Nat → Int32) (a : Nat → Nat → Int32) : Nat → Nat → Int32 := if (i 5) ≤ (48 : Int32) then a else if ((i 5) - (i 5) / (16 : Int32) * (16 : Int32)) = (0 : Int32) then if (rK_firstBroken i a ) = (-1 : Int32) then (aK_firstBroken i a ) else (aK_firstBroken i a ) else a
set_option maxHeartbeats 4000000 in
set_option maxRecDepth 100000 in
theorem eK_firstWrong (i : Nat → Int32) (a : Nat → Nat → Int32) (tl : List am_Cl) (hs : (i 5).toInt ≤ 1000) : am_Ev sK_firstWrong [.ref 18] (wX i a tl) (some (.int (rK_firstWrong i a ))) (wX i (aK_firstWrong i a ) tl) := by
  refine am_Ev_of cwK_firstWrong rfl rfl rfl (am_wp_T gdK_firstWrong 400 ?_)
  refine am_split (fun h1 => ?_) (fun h1 => ?_)
  · skip
    exact am_ri (x := (48 : Int32)) (S := sK_firstWrong) (congrArg (fun x => some (Value.int x)) (by unfold rK_firstWrong; rw [if_pos h1])) (am_w2 (i2 := i) (a2 := a) rfl (by unfold aK_firstWrong; rw [if_pos h1]) rfl) rfl rfl
  · skip
    refine am_split (fun h2 => ?_) (fun h2 => ?_)
    · skip
      refine am_callga (eK_firstBroken i a  tl) (fun A1 hA1 => ?_)
      refine am_split (fun h3 => ?_) (fun h3 => ?_)
      · skip
        refine am_call (eK_firstUnsafe i A1  tl  (by assumption)) ?_
        exact am_ri (x := (rK_firstUnsafe i A1 )) (S := sK_firstWrong) (congrArg (fun x => some (Value.int x)) (by unfold rK_firstWrong; (try rw [← hA1]); rw [if_neg h1, if_pos h2, if_pos h3])) (am_w2 (i2 := i) (a2 := A1) rfl (by unfold aK_firstWrong; (try rw [← hA1]); rw [if_neg h1, if_pos h2, if_pos h3]) rfl) rfl rfl
      · skip
        exact am_ri (x := (rK_firstBroken i a )) (S := sK_firstWrong) (congrArg (fun x => some (Value.int x)) (by unfold rK_firstWrong; (try rw [← hA1]); rw [if_neg h1, if_pos h2, if_neg h3])) (am_w2 (i2 := i) (a2 := A1) rfl (by unfold aK_firstWrong; (try rw [← hA1]); rw [if_neg h1, if_pos h2, if_neg h3]) rfl) rfl rfl
    · skip
      exact am_ri (x := (48 : Int32)) (S := sK_firstWrong) (congrArg (fun x => some (Value.int x)) (by unfold rK_firstWrong; rw [if_neg h1, if_neg h2])) (am_w2 (i2 := i) (a2 := a) rfl (by unfold aK_firstWrong; rw [if_neg h1, if_neg h2]) rfl) rfl rfl
noncomputable def rX_check (i : Nat → Int32) (a : Nat → Nat → Int32) : Int32 := (rK_firstWrong i a )
noncomputable def aX_check (i : Nat → Int32) (a : Nat → Nat → Int32) : Nat → Nat → Int32 := (aK_firstWrong i a )
set_option maxHeartbeats 4000000 in
set_option maxRecDepth 100000 in
theorem eX_check (i : Nat → Int32) (a : Nat → Nat → Int32) (tl : List am_Cl) (hs : (i 5).toInt ≤ 1000) : am_Ev sX_check [.ref 0] (wX i a tl) (some (.int (rX_check i a ))) (wX i (aX_check i a ) tl) := by
  refine am_Ev_of cwX_check rfl rfl rfl (am_wp_T gdX_check 400 ?_)
  refine am_callga (eK_firstWrong i a  tl  (by assumption)) (fun A1 hA1 => ?_)
  exact am_ri (x := (rK_firstWrong i a )) (S := sX_check) (congrArg (fun x => some (Value.int x)) (by unfold rX_check; (try rw [← hA1]); first | done | rfl)) (am_w2 (i2 := i) (a2 := A1) rfl (by unfold aX_check; (try rw [← hA1]); first | done | rfl) rfl) rfl rfl
noncomputable def iU_forgetAll_M_2 : Nat → (Nat → Int32) → (Nat → Nat → Int32) → Int32 → Nat → Int32
  | 0, i, _, _ => i
  | f + 1, i, a, n => if (16 : Int32) ≤ n then (sI (sI (sI i (0 : Int32) 8) (0 : Int32) 9) (0 : Int32) 10) else (iU_forgetAll_M_2 f i (sA a (upd (a 16) (Int32.toNatClampNeg n) (0 : Int32)) 16) (n + (1 : Int32)))
noncomputable def aU_forgetAll_M_2 : Nat → (Nat → Int32) → (Nat → Nat → Int32) → Int32 → Nat → Nat → Int32
  | 0, _, a, _ => a
  | f + 1, i, a, n => if (16 : Int32) ≤ n then a else (aU_forgetAll_M_2 f i (sA a (upd (a 16) (Int32.toNatClampNeg n) (0 : Int32)) 16) (n + (1 : Int32)))
set_option maxHeartbeats 4000000 in
set_option maxRecDepth 100000 in
theorem tU_forgetAll_M_2 (tl : List am_Cl) : ∀ (f : Nat) (i : Nat → Int32) (a : Nat → Nat → Int32) (n : Int32), ((16 : Int32).toInt - Int32.toInt n).toNat < f → 0 ≤ n.toInt → am_T sU_forgetAll none (wX (iU_forgetAll_M_2 f i a n) (aU_forgetAll_M_2 f i a n) tl) 23 [.ref 22, .int n] [] (wX i a tl) 0 0 := by
  intro f
  induction f with
  | zero => intro i a n hm; exact absurd hm (Nat.not_lt_zero _)
  | succ f ih =>
    intro i a n hm hk
    refine am_wu_T gdU_forgetAll [23] 400 ?_
    refine am_split (fun h1 => ?_) (fun h1 => ?_)
    · skip
      exact am_rv (S := sU_forgetAll) (by simp only [iU_forgetAll_M_2, aU_forgetAll_M_2, if_pos h1]; try rfl) rfl
    · skip
      refine And.intro (by exact vp_nn (M := 16) hk (by assumption) (by decide)) ?_
      exact am_Tc (am_Tw (ih i (sA a (upd (a 16) (Int32.toNatClampNeg n) (0 : Int32)) 16) (n + (1 : Int32)) (ms_up (M := 16) (by assumption) hm) (nn_up (M := 16) hk (by assumption))) ⟨Or.inr rfl, Or.inr rfl, trivial⟩) rfl (by simp only [iU_forgetAll_M_2, aU_forgetAll_M_2, if_neg h1])
noncomputable def iU_forgetAll_M_1 : Nat → (Nat → Int32) → (Nat → Nat → Int32) → Int32 → Nat → Int32
  | 0, i, _, _ => i
  | f + 1, i, a, n => if (32 : Int32) ≤ n then (iU_forgetAll_M_2 (((16 : Int32).toInt - Int32.toInt (0 : Int32)).toNat + 1) i a (0 : Int32)) else (iU_forgetAll_M_1 f i (sA a (upd (a 15) (Int32.toNatClampNeg n) (0 : Int32)) 15) (n + (1 : Int32)))
noncomputable def aU_forgetAll_M_1 : Nat → (Nat → Int32) → (Nat → Nat → Int32) → Int32 → Nat → Nat → Int32
  | 0, _, a, _ => a
  | f + 1, i, a, n => if (32 : Int32) ≤ n then (aU_forgetAll_M_2 (((16 : Int32).toInt - Int32.toInt (0 : Int32)).toNat + 1) i a (0 : Int32)) else (aU_forgetAll_M_1 f i (sA a (upd (a 15) (Int32.toNatClampNeg n) (0 : Int32)) 15) (n + (1 : Int32)))
set_option maxHeartbeats 4000000 in
set_option maxRecDepth 100000 in
theorem tU_forgetAll_M_1 (tl : List am_Cl) : ∀ (f : Nat) (i : Nat → Int32) (a : Nat → Nat → Int32) (n : Int32), ((32 : Int32).toInt - Int32.toInt n).toNat < f → 0 ≤ n.toInt → am_T sU_forgetAll none (wX (iU_forgetAll_M_1 f i a n) (aU_forgetAll_M_1 f i a n) tl) 2 [.ref 22, .int n] [] (wX i a tl) 0 0 := by
  intro f
  induction f with
  | zero => intro i a n hm; exact absurd hm (Nat.not_lt_zero _)
  | succ f ih =>
    intro i a n hm hk
    refine am_wu_T gdU_forgetAll [2, 23] 400 ?_
    refine am_split (fun h1 => ?_) (fun h1 => ?_)
    · skip
      exact am_Tc (am_Tw (tU_forgetAll_M_2 tl (((16 : Int32).toInt - Int32.toInt (0 : Int32)).toNat + 1) i a (0 : Int32) (Nat.lt_add_one _) (by decide)) ⟨Or.inr rfl, Or.inr rfl, trivial⟩) rfl (by unfold iU_forgetAll_M_1 aU_forgetAll_M_1; simp only [if_pos h1]; try rfl)
    · skip
      refine And.intro (by exact vp_nn (M := 32) hk (by assumption) (by decide)) ?_
      exact am_Tc (am_Tw (ih i (sA a (upd (a 15) (Int32.toNatClampNeg n) (0 : Int32)) 15) (n + (1 : Int32)) (ms_up (M := 32) (by assumption) hm) (nn_up (M := 32) hk (by assumption))) ⟨Or.inr rfl, Or.inr rfl, trivial⟩) rfl (by simp only [iU_forgetAll_M_1, aU_forgetAll_M_1, if_neg h1])
noncomputable def iU_forgetAll_M (i : Nat → Int32) (a : Nat → Nat → Int32) : Nat → Int32 := (iU_forgetAll_M_1 (((32 : Int32).toInt - Int32.toInt (0 : Int32)).toNat + 1) i a (0 : Int32))
noncomputable def aU_forgetAll_M (i : Nat → Int32) (a : Nat → Nat → Int32) : Nat → Nat → Int32 := (aU_forgetAll_M_1 (((32 : Int32).toInt - Int32.toInt (0 : Int32)).toNat + 1) i a (0 : Int32))
set_option maxHeartbeats 4000000 in
set_option maxRecDepth 100000 in
theorem eU_forgetAll_M (i : Nat → Int32) (a : Nat → Nat → Int32) (tl : List am_Cl) : am_Ev sU_forgetAll [.ref 22] (wX i a tl) none (wX (iU_forgetAll_M i a ) (aU_forgetAll_M i a ) tl) := by
  refine am_Ev_of cwU_forgetAll rfl rfl rfl (am_wt_T gdU_forgetAll [2] 400 ?_)
  exact am_Tc (am_Tw (tU_forgetAll_M_1 tl (((32 : Int32).toInt - Int32.toInt (0 : Int32)).toNat + 1) i a (0 : Int32) (Nat.lt_add_one _) (by decide)) ⟨Or.inr rfl, Or.inr rfl, trivial⟩) rfl (by unfold iU_forgetAll_M aU_forgetAll_M; rfl)
noncomputable def iU_forgetAll_T_2 : Nat → (Nat → Int32) → (Nat → Nat → Int32) → Int32 → Nat → Int32
  | 0, i, _, _ => i
  | f + 1, i, a, n => if (16 : Int32) ≤ n then (sI (sI (sI i (0 : Int32) 12) (0 : Int32) 13) (0 : Int32) 14) else (iU_forgetAll_T_2 f i (sA a (upd (a 19) (Int32.toNatClampNeg n) (0 : Int32)) 19) (n + (1 : Int32)))
noncomputable def aU_forgetAll_T_2 : Nat → (Nat → Int32) → (Nat → Nat → Int32) → Int32 → Nat → Nat → Int32
  | 0, _, a, _ => a
  | f + 1, i, a, n => if (16 : Int32) ≤ n then a else (aU_forgetAll_T_2 f i (sA a (upd (a 19) (Int32.toNatClampNeg n) (0 : Int32)) 19) (n + (1 : Int32)))
set_option maxHeartbeats 4000000 in
set_option maxRecDepth 100000 in
theorem tU_forgetAll_T_2 (tl : List am_Cl) : ∀ (f : Nat) (i : Nat → Int32) (a : Nat → Nat → Int32) (n : Int32), ((16 : Int32).toInt - Int32.toInt n).toNat < f → 0 ≤ n.toInt → am_T sU_forgetAll none (wX (iU_forgetAll_T_2 f i a n) (aU_forgetAll_T_2 f i a n) tl) 23 [.ref 26, .int n] [] (wX i a tl) 0 0 := by
  intro f
  induction f with
  | zero => intro i a n hm; exact absurd hm (Nat.not_lt_zero _)
  | succ f ih =>
    intro i a n hm hk
    refine am_wu_T gdU_forgetAll [23] 400 ?_
    refine am_split (fun h1 => ?_) (fun h1 => ?_)
    · skip
      exact am_rv (S := sU_forgetAll) (by simp only [iU_forgetAll_T_2, aU_forgetAll_T_2, if_pos h1]; try rfl) rfl
    · skip
      refine And.intro (by exact vp_nn (M := 16) hk (by assumption) (by decide)) ?_
      exact am_Tc (am_Tw (ih i (sA a (upd (a 19) (Int32.toNatClampNeg n) (0 : Int32)) 19) (n + (1 : Int32)) (ms_up (M := 16) (by assumption) hm) (nn_up (M := 16) hk (by assumption))) ⟨Or.inr rfl, Or.inr rfl, trivial⟩) rfl (by simp only [iU_forgetAll_T_2, aU_forgetAll_T_2, if_neg h1])
noncomputable def iU_forgetAll_T_1 : Nat → (Nat → Int32) → (Nat → Nat → Int32) → Int32 → Nat → Int32
  | 0, i, _, _ => i
  | f + 1, i, a, n => if (32 : Int32) ≤ n then (iU_forgetAll_T_2 (((16 : Int32).toInt - Int32.toInt (0 : Int32)).toNat + 1) i a (0 : Int32)) else (iU_forgetAll_T_1 f i (sA a (upd (a 18) (Int32.toNatClampNeg n) (0 : Int32)) 18) (n + (1 : Int32)))
noncomputable def aU_forgetAll_T_1 : Nat → (Nat → Int32) → (Nat → Nat → Int32) → Int32 → Nat → Nat → Int32
  | 0, _, a, _ => a
  | f + 1, i, a, n => if (32 : Int32) ≤ n then (aU_forgetAll_T_2 (((16 : Int32).toInt - Int32.toInt (0 : Int32)).toNat + 1) i a (0 : Int32)) else (aU_forgetAll_T_1 f i (sA a (upd (a 18) (Int32.toNatClampNeg n) (0 : Int32)) 18) (n + (1 : Int32)))
set_option maxHeartbeats 4000000 in
set_option maxRecDepth 100000 in
theorem tU_forgetAll_T_1 (tl : List am_Cl) : ∀ (f : Nat) (i : Nat → Int32) (a : Nat → Nat → Int32) (n : Int32), ((32 : Int32).toInt - Int32.toInt n).toNat < f → 0 ≤ n.toInt → am_T sU_forgetAll none (wX (iU_forgetAll_T_1 f i a n) (aU_forgetAll_T_1 f i a n) tl) 2 [.ref 26, .int n] [] (wX i a tl) 0 0 := by
  intro f
  induction f with
  | zero => intro i a n hm; exact absurd hm (Nat.not_lt_zero _)
  | succ f ih =>
    intro i a n hm hk
    refine am_wu_T gdU_forgetAll [2, 23] 400 ?_
    refine am_split (fun h1 => ?_) (fun h1 => ?_)
    · skip
      exact am_Tc (am_Tw (tU_forgetAll_T_2 tl (((16 : Int32).toInt - Int32.toInt (0 : Int32)).toNat + 1) i a (0 : Int32) (Nat.lt_add_one _) (by decide)) ⟨Or.inr rfl, Or.inr rfl, trivial⟩) rfl (by unfold iU_forgetAll_T_1 aU_forgetAll_T_1; simp only [if_pos h1]; try rfl)
    · skip
      refine And.intro (by exact vp_nn (M := 32) hk (by assumption) (by decide)) ?_
      exact am_Tc (am_Tw (ih i (sA a (upd (a 18) (Int32.toNatClampNeg n) (0 : Int32)) 18) (n + (1 : Int32)) (ms_up (M := 32) (by assumption) hm) (nn_up (M := 32) hk (by assumption))) ⟨Or.inr rfl, Or.inr rfl, trivial⟩) rfl (by simp only [iU_forgetAll_T_1, aU_forgetAll_T_1, if_neg h1])
noncomputable def iU_forgetAll_T (i : Nat → Int32) (a : Nat → Nat → Int32) : Nat → Int32 := (iU_forgetAll_T_1 (((32 : Int32).toInt - Int32.toInt (0 : Int32)).toNat + 1) i a (0 : Int32))
noncomputable def aU_forgetAll_T (i : Nat → Int32) (a : Nat → Nat → Int32) : Nat → Nat → Int32 := (aU_forgetAll_T_1 (((32 : Int32).toInt - Int32.toInt (0 : Int32)).toNat + 1) i a (0 : Int32))
set_option maxHeartbeats 4000000 in
set_option maxRecDepth 100000 in
theorem eU_forgetAll_T (i : Nat → Int32) (a : Nat → Nat → Int32) (tl : List am_Cl) : am_Ev sU_forgetAll [.ref 26] (wX i a tl) none (wX (iU_forgetAll_T i a ) (aU_forgetAll_T i a ) tl) := by
  refine am_Ev_of cwU_forgetAll rfl rfl rfl (am_wt_T gdU_forgetAll [2] 400 ?_)
  exact am_Tc (am_Tw (tU_forgetAll_T_1 tl (((32 : Int32).toInt - Int32.toInt (0 : Int32)).toNat + 1) i a (0 : Int32) (Nat.lt_add_one _) (by decide)) ⟨Or.inr rfl, Or.inr rfl, trivial⟩) rfl (by unfold iU_forgetAll_T aU_forgetAll_T; rfl)
noncomputable def rT_leap (i : Nat → Int32) (a : Nat → Nat → Int32) (p q r : Int32) : Int32 := if (rP_bundleTargetAt i a q) = (-1 : Int32) then (5 : Int32) else (0 : Int32)
noncomputable def iT_leap (i : Nat → Int32) (a : Nat → Nat → Int32) (p q r : Int32) : Nat → Int32 := if (rP_bundleTargetAt i a q) = (-1 : Int32) then i else (sI i (rP_bundleTargetAt i a q) 15)
noncomputable def aT_leap (i : Nat → Int32) (a : Nat → Nat → Int32) (p q r : Int32) : Nat → Nat → Int32 := if (rP_bundleTargetAt i a q) = (-1 : Int32) then a else (aU_set_T i a p r)
set_option maxHeartbeats 4000000 in
set_option maxRecDepth 100000 in
theorem eT_leap (i : Nat → Int32) (a : Nat → Nat → Int32) (p q r : Int32) (tl : List am_Cl) (hc : (i 3).toInt ≤ 1000) : am_Ev sT_leap [.ref 26, .int p, .int q, .int r] (wX i a tl) (some (.int (rT_leap i a p q r))) (wX (iT_leap i a p q r) (aT_leap i a p q r) tl) := by
  refine am_Ev_of cwT_leap rfl rfl rfl (am_wp_T gdT_leap 400 ?_)
  refine am_call (eP_bundleTargetAt i a q tl  (by assumption)) ?_
  refine am_split (fun h1 => ?_) (fun h1 => ?_)
  · skip
    exact am_ri (S := sT_leap) (by unfold rT_leap; simp only [if_pos h1]; try rfl) (by unfold iT_leap aT_leap; simp only [if_pos h1]; try rfl) rfl rfl
  · skip
    refine am_call (eU_set_T i a p r tl) ?_
    exact am_ri (S := sT_leap) (by unfold rT_leap; simp only [if_neg h1]; try rfl) (by unfold iT_leap aT_leap; simp only [if_neg h1]; try rfl) rfl rfl
noncomputable def rT_step (i : Nat → Int32) (a : Nat → Nat → Int32) : Int32 := if (i 15) < (0 : Int32) then (2 : Int32) else if (i 15) < (i 3) then if (rP_kindAt_b i a (i 15)) = (6 : Int32) then if (rU_moves_T i a (rP_kindAt_b i a (i 15)) (rP_firstAt_b i a (i 15)) (rP_secondAt_b i a (i 15)) (rP_thirdAt_b i a (i 15))) = (0 : Int32) then (4 : Int32) else (0 : Int32) else if (rP_kindAt_b i a (i 15)) = (7 : Int32) then if (rU_moves_T i a (rP_kindAt_b i a (i 15)) (rP_firstAt_b i a (i 15)) (rP_secondAt_b i a (i 15)) (rP_thirdAt_b i a (i 15))) = (0 : Int32) then (4 : Int32) else (0 : Int32) else if (rP_kindAt_b i a (i 15)) = (8 : Int32) then if (rU_branches_T i a (rP_kindAt_b i a (i 15)) (rP_firstAt_b i a (i 15)) (rP_secondAt_b i a (i 15))) = (0 : Int32) then (0 : Int32) else (0 : Int32) else if (rP_kindAt_b i a (i 15)) = (9 : Int32) then if (rU_branches_T i a (rP_kindAt_b i a (i 15)) (rP_firstAt_b i a (i 15)) (rP_secondAt_b i a (i 15))) = (0 : Int32) then (0 : Int32) else (0 : Int32) else if (rP_kindAt_b i a (i 15)) = (10 : Int32) then if (rU_branches_T i a (rP_kindAt_b i a (i 15)) (rP_firstAt_b i a (i 15)) (rP_secondAt_b i a (i 15))) = (0 : Int32) then (0 : Int32) else (0 : Int32) else if (rP_kindAt_b i a (i 15)) = (11 : Int32) then (0 : Int32) else if (rP_kindAt_b i a (i 15)) = (12 : Int32) then (rT_leap i a (rP_firstAt_b i a (i 15)) (rU_get_T i a (rP_secondAt_b i a (i 15))) (rP_addressOf_b i a ((i 15) + (1 : Int32)))) else if (rP_kindAt_b i a (i 15)) = (13 : Int32) then (0 : Int32) else if (rP_kindAt_b i a (i 15)) = (14 : Int32) then (0 : Int32) else if (rP_kindAt_b i a (i 15)) = (15 : Int32) then (rT_serve i (aU_set_T i a (1 : Int32) (rP_addressOf_b i a ((i 15) + (1 : Int32)))) (rP_firstAt_b i a (i 15)) ((i 15) + (1 : Int32))) else if (rP_kindAt_b i a (i 15)) = (16 : Int32) then (0 : Int32) else (0 : Int32) else (2 : Int32)
noncomputable def iT_step (i : Nat → Int32) (a : Nat → Nat → Int32) : Nat → Int32 := if (i 15) < (0 : Int32) then i else if (i 15) < (i 3) then if (rP_kindAt_b i a (i 15)) = (6 : Int32) then if (rU_moves_T i a (rP_kindAt_b i a (i 15)) (rP_firstAt_b i a (i 15)) (rP_secondAt_b i a (i 15)) (rP_thirdAt_b i a (i 15))) = (0 : Int32) then i else (sI i ((i 15) + (1 : Int32)) 15) else if (rP_kindAt_b i a (i 15)) = (7 : Int32) then if (rU_moves_T i a (rP_kindAt_b i a (i 15)) (rP_firstAt_b i a (i 15)) (rP_secondAt_b i a (i 15)) (rP_thirdAt_b i a (i 15))) = (0 : Int32) then i else (sI i ((i 15) + (1 : Int32)) 15) else if (rP_kindAt_b i a (i 15)) = (8 : Int32) then if (rU_branches_T i a (rP_kindAt_b i a (i 15)) (rP_firstAt_b i a (i 15)) (rP_secondAt_b i a (i 15))) = (0 : Int32) then (sI i ((i 15) + (1 : Int32)) 15) else (sI i (rP_thirdAt_b i a (i 15)) 15) else if (rP_kindAt_b i a (i 15)) = (9 : Int32) then if (rU_branches_T i a (rP_kindAt_b i a (i 15)) (rP_firstAt_b i a (i 15)) (rP_secondAt_b i a (i 15))) = (0 : Int32) then (sI i ((i 15) + (1 : Int32)) 15) else (sI i (rP_thirdAt_b i a (i 15)) 15) else if (rP_kindAt_b i a (i 15)) = (10 : Int32) then if (rU_branches_T i a (rP_kindAt_b i a (i 15)) (rP_firstAt_b i a (i 15)) (rP_secondAt_b i a (i 15))) = (0 : Int32) then (sI i ((i 15) + (1 : Int32)) 15) else (sI i (rP_thirdAt_b i a (i 15)) 15) else if (rP_kindAt_b i a (i 15)) = (11 : Int32) then (sI i (rP_secondAt_b i a (i 15)) 15) else if (rP_kindAt_b i a (i 15)) = (12 : Int32) then (iT_leap i a (rP_firstAt_b i a (i 15)) (rU_get_T i a (rP_secondAt_b i a (i 15))) (rP_addressOf_b i a ((i 15) + (1 : Int32)))) else if (rP_kindAt_b i a (i 15)) = (13 : Int32) then (sI i ((i 15) + (1 : Int32)) 15) else if (rP_kindAt_b i a (i 15)) = (14 : Int32) then (sI i ((i 15) + (1 : Int32)) 15) else if (rP_kindAt_b i a (i 15)) = (15 : Int32) then (iT_serve i (aU_set_T i a (1 : Int32) (rP_addressOf_b i a ((i 15) + (1 : Int32)))) (rP_firstAt_b i a (i 15)) ((i 15) + (1 : Int32))) else if (rP_kindAt_b i a (i 15)) = (16 : Int32) then (sI i ((i 15) + (1 : Int32)) 15) else (sI i ((i 15) + (1 : Int32)) 15) else i
noncomputable def aT_step (i : Nat → Int32) (a : Nat → Nat → Int32) : Nat → Nat → Int32 := if (i 15) < (0 : Int32) then a else if (i 15) < (i 3) then if (rP_kindAt_b i a (i 15)) = (6 : Int32) then if (rU_moves_T i a (rP_kindAt_b i a (i 15)) (rP_firstAt_b i a (i 15)) (rP_secondAt_b i a (i 15)) (rP_thirdAt_b i a (i 15))) = (0 : Int32) then (aU_moves_T i a (rP_kindAt_b i a (i 15)) (rP_firstAt_b i a (i 15)) (rP_secondAt_b i a (i 15)) (rP_thirdAt_b i a (i 15))) else (aU_moves_T i a (rP_kindAt_b i a (i 15)) (rP_firstAt_b i a (i 15)) (rP_secondAt_b i a (i 15)) (rP_thirdAt_b i a (i 15))) else if (rP_kindAt_b i a (i 15)) = (7 : Int32) then if (rU_moves_T i a (rP_kindAt_b i a (i 15)) (rP_firstAt_b i a (i 15)) (rP_secondAt_b i a (i 15)) (rP_thirdAt_b i a (i 15))) = (0 : Int32) then (aU_moves_T i a (rP_kindAt_b i a (i 15)) (rP_firstAt_b i a (i 15)) (rP_secondAt_b i a (i 15)) (rP_thirdAt_b i a (i 15))) else (aU_moves_T i a (rP_kindAt_b i a (i 15)) (rP_firstAt_b i a (i 15)) (rP_secondAt_b i a (i 15)) (rP_thirdAt_b i a (i 15))) else if (rP_kindAt_b i a (i 15)) = (8 : Int32) then if (rU_branches_T i a (rP_kindAt_b i a (i 15)) (rP_firstAt_b i a (i 15)) (rP_secondAt_b i a (i 15))) = (0 : Int32) then a else a else if (rP_kindAt_b i a (i 15)) = (9 : Int32) then if (rU_branches_T i a (rP_kindAt_b i a (i 15)) (rP_firstAt_b i a (i 15)) (rP_secondAt_b i a (i 15))) = (0 : Int32) then a else a else if (rP_kindAt_b i a (i 15)) = (10 : Int32) then if (rU_branches_T i a (rP_kindAt_b i a (i 15)) (rP_firstAt_b i a (i 15)) (rP_secondAt_b i a (i 15))) = (0 : Int32) then a else a else if (rP_kindAt_b i a (i 15)) = (11 : Int32) then (aU_set_T i a (rP_firstAt_b i a (i 15)) (rP_addressOf_b i a ((i 15) + (1 : Int32)))) else if (rP_kindAt_b i a (i 15)) = (12 : Int32) then (aT_leap i a (rP_firstAt_b i a (i 15)) (rU_get_T i a (rP_secondAt_b i a (i 15))) (rP_addressOf_b i a ((i 15) + (1 : Int32)))) else if (rP_kindAt_b i a (i 15)) = (13 : Int32) then (aU_compute_T i a (rP_kindAt_b i a (i 15)) (rP_firstAt_b i a (i 15)) (rP_secondAt_b i a (i 15)) (rP_thirdAt_b i a (i 15))) else if (rP_kindAt_b i a (i 15)) = (14 : Int32) then (aU_compute_T i a (rP_kindAt_b i a (i 15)) (rP_firstAt_b i a (i 15)) (rP_secondAt_b i a (i 15)) (rP_thirdAt_b i a (i 15))) else if (rP_kindAt_b i a (i 15)) = (15 : Int32) then (aT_serve i (aU_set_T i a (1 : Int32) (rP_addressOf_b i a ((i 15) + (1 : Int32)))) (rP_firstAt_b i a (i 15)) ((i 15) + (1 : Int32))) else if (rP_kindAt_b i a (i 15)) = (16 : Int32) then (aU_set_T i a (rP_firstAt_b i a (i 15)) (rP_addressOf_b i a (rP_secondAt_b i a (i 15)))) else (aU_compute_T i a (rP_kindAt_b i a (i 15)) (rP_firstAt_b i a (i 15)) (rP_secondAt_b i a (i 15)) (rP_thirdAt_b i a (i 15))) else a
set_option maxHeartbeats 4000000 in
set_option maxRecDepth 100000 in
theorem eT_step (i : Nat → Int32) (a : Nat → Nat → Int32) (tl : List am_Cl) (hc : (i 3).toInt ≤ 1000) : am_Ev sT_step [.ref 26] (wX i a tl) (some (.int (rT_step i a ))) (wX (iT_step i a ) (aT_step i a ) tl) := by
  refine am_Ev_of cwT_step rfl rfl rfl (am_wp_T gdT_step 400 ?_)
  refine am_split (fun h1 => ?_) (fun h1 => ?_)
  · skip
    exact am_ri (S := sT_step) (by unfold rT_step; simp only [if_pos h1]; try rfl) (by unfold iT_step aT_step; simp only [if_pos h1]; try rfl) rfl rfl
  · skip
    refine am_split (fun h2 => ?_) (fun h2 => ?_)
    · skip
      refine am_call (eP_kindAt_b i a (i 15) tl) ?_
      refine am_call (eP_firstAt_b i a (i 15) tl) ?_
      refine am_call (eP_secondAt_b i a (i 15) tl) ?_
      refine am_call (eP_thirdAt_b i a (i 15) tl) ?_
      refine am_split (fun h3 => ?_) (fun h3 => ?_)
      · skip
        refine am_call (eU_moves_T i a (rP_kindAt_b i a (i 15)) (rP_firstAt_b i a (i 15)) (rP_secondAt_b i a (i 15)) (rP_thirdAt_b i a (i 15)) tl) ?_
        refine am_split (fun h4 => ?_) (fun h4 => ?_)
        · skip
          exact am_ri (S := sT_step) (by unfold rT_step; simp only [if_neg h1, if_pos h2, if_pos h3, if_pos h4]; try rfl) (by unfold iT_step aT_step; simp only [if_neg h1, if_pos h2, if_pos h3, if_pos h4]; try rfl) rfl rfl
        · skip
          exact am_ri (S := sT_step) (by unfold rT_step; simp only [if_neg h1, if_pos h2, if_pos h3, if_neg h4]; try rfl) (by unfold iT_step aT_step; simp only [if_neg h1, if_pos h2, if_pos h3, if_neg h4]; try rfl) rfl rfl
      · skip
        refine am_split (fun h5 => ?_) (fun h5 => ?_)
        · skip
          refine am_call (eU_moves_T i a (rP_kindAt_b i a (i 15)) (rP_firstAt_b i a (i 15)) (rP_secondAt_b i a (i 15)) (rP_thirdAt_b i a (i 15)) tl) ?_
          refine am_split (fun h6 => ?_) (fun h6 => ?_)
          · skip
            exact am_ri (S := sT_step) (by unfold rT_step; simp only [if_neg h1, if_pos h2, if_neg h3, if_pos h5, if_pos h6]; try rfl) (by unfold iT_step aT_step; simp only [if_neg h1, if_pos h2, if_neg h3, if_pos h5, if_pos h6]; try rfl) rfl rfl
          · skip
            exact am_ri (S := sT_step) (by unfold rT_step; simp only [if_neg h1, if_pos h2, if_neg h3, if_pos h5, if_neg h6]; try rfl) (by unfold iT_step aT_step; simp only [if_neg h1, if_pos h2, if_neg h3, if_pos h5, if_neg h6]; try rfl) rfl rfl
        · skip
          refine am_split (fun h7 => ?_) (fun h7 => ?_)
          · skip
            refine am_call (eU_branches_T i a (rP_kindAt_b i a (i 15)) (rP_firstAt_b i a (i 15)) (rP_secondAt_b i a (i 15)) tl) ?_
            refine am_split (fun h8 => ?_) (fun h8 => ?_)
            · skip
              exact am_ri (S := sT_step) (by unfold rT_step; simp only [if_neg h1, if_pos h2, if_neg h3, if_neg h5, if_pos h7, if_pos h8]; try rfl) (by unfold iT_step aT_step; simp only [if_neg h1, if_pos h2, if_neg h3, if_neg h5, if_pos h7, if_pos h8]; try rfl) rfl rfl
            · skip
              exact am_ri (S := sT_step) (by unfold rT_step; simp only [if_neg h1, if_pos h2, if_neg h3, if_neg h5, if_pos h7, if_neg h8]; try rfl) (by unfold iT_step aT_step; simp only [if_neg h1, if_pos h2, if_neg h3, if_neg h5, if_pos h7, if_neg h8]; try rfl) rfl rfl
          · skip
            refine am_split (fun h9 => ?_) (fun h9 => ?_)
            · skip
              refine am_call (eU_branches_T i a (rP_kindAt_b i a (i 15)) (rP_firstAt_b i a (i 15)) (rP_secondAt_b i a (i 15)) tl) ?_
              refine am_split (fun h10 => ?_) (fun h10 => ?_)
              · skip
                exact am_ri (S := sT_step) (by unfold rT_step; simp only [if_neg h1, if_pos h2, if_neg h3, if_neg h5, if_neg h7, if_pos h9, if_pos h10]; try rfl) (by unfold iT_step aT_step; simp only [if_neg h1, if_pos h2, if_neg h3, if_neg h5, if_neg h7, if_pos h9, if_pos h10]; try rfl) rfl rfl
              · skip
                exact am_ri (S := sT_step) (by unfold rT_step; simp only [if_neg h1, if_pos h2, if_neg h3, if_neg h5, if_neg h7, if_pos h9, if_neg h10]; try rfl) (by unfold iT_step aT_step; simp only [if_neg h1, if_pos h2, if_neg h3, if_neg h5, if_neg h7, if_pos h9, if_neg h10]; try rfl) rfl rfl
            · skip
              refine am_split (fun h11 => ?_) (fun h11 => ?_)
              · skip
                refine am_call (eU_branches_T i a (rP_kindAt_b i a (i 15)) (rP_firstAt_b i a (i 15)) (rP_secondAt_b i a (i 15)) tl) ?_
                refine am_split (fun h12 => ?_) (fun h12 => ?_)
                · skip
                  exact am_ri (S := sT_step) (by unfold rT_step; simp only [if_neg h1, if_pos h2, if_neg h3, if_neg h5, if_neg h7, if_neg h9, if_pos h11, if_pos h12]; try rfl) (by unfold iT_step aT_step; simp only [if_neg h1, if_pos h2, if_neg h3, if_neg h5, if_neg h7, if_neg h9, if_pos h11, if_pos h12]; try rfl) rfl rfl
                · skip
                  exact am_ri (S := sT_step) (by unfold rT_step; simp only [if_neg h1, if_pos h2, if_neg h3, if_neg h5, if_neg h7, if_neg h9, if_pos h11, if_neg h12]; try rfl) (by unfold iT_step aT_step; simp only [if_neg h1, if_pos h2, if_neg h3, if_neg h5, if_neg h7, if_neg h9, if_pos h11, if_neg h12]; try rfl) rfl rfl
              · skip
                refine am_split (fun h13 => ?_) (fun h13 => ?_)
                · skip
                  refine am_call (eP_addressOf_b i a ((i 15) + (1 : Int32)) tl) ?_
                  refine am_call (eU_set_T i a (rP_firstAt_b i a (i 15)) (rP_addressOf_b i a ((i 15) + (1 : Int32))) tl) ?_
                  exact am_ri (S := sT_step) (by unfold rT_step; simp only [if_neg h1, if_pos h2, if_neg h3, if_neg h5, if_neg h7, if_neg h9, if_neg h11, if_pos h13]; try rfl) (by unfold iT_step aT_step; simp only [if_neg h1, if_pos h2, if_neg h3, if_neg h5, if_neg h7, if_neg h9, if_neg h11, if_pos h13]; try rfl) rfl rfl
                · skip
                  refine am_split (fun h14 => ?_) (fun h14 => ?_)
                  · skip
                    refine am_call (eU_get_T i a (rP_secondAt_b i a (i 15)) tl) ?_
                    refine am_call (eP_addressOf_b i a ((i 15) + (1 : Int32)) tl) ?_
                    refine am_call (eT_leap i a (rP_firstAt_b i a (i 15)) (rU_get_T i a (rP_secondAt_b i a (i 15))) (rP_addressOf_b i a ((i 15) + (1 : Int32))) tl  (by assumption)) ?_
                    exact am_ri (S := sT_step) (by unfold rT_step; simp only [if_neg h1, if_pos h2, if_neg h3, if_neg h5, if_neg h7, if_neg h9, if_neg h11, if_neg h13, if_pos h14]; try rfl) (by unfold iT_step aT_step; simp only [if_neg h1, if_pos h2, if_neg h3, if_neg h5, if_neg h7, if_neg h9, if_neg h11, if_neg h13, if_pos h14]; try rfl) rfl rfl
                  · skip
                    refine am_split (fun h15 => ?_) (fun h15 => ?_)
                    · skip
                      refine am_call (eU_compute_T i a (rP_kindAt_b i a (i 15)) (rP_firstAt_b i a (i 15)) (rP_secondAt_b i a (i 15)) (rP_thirdAt_b i a (i 15)) tl) ?_
                      exact am_ri (S := sT_step) (by unfold rT_step; simp only [if_neg h1, if_pos h2, if_neg h3, if_neg h5, if_neg h7, if_neg h9, if_neg h11, if_neg h13, if_neg h14, if_pos h15]; try rfl) (by unfold iT_step aT_step; simp only [if_neg h1, if_pos h2, if_neg h3, if_neg h5, if_neg h7, if_neg h9, if_neg h11, if_neg h13, if_neg h14, if_pos h15]; try rfl) rfl rfl
                    · skip
                      refine am_split (fun h16 => ?_) (fun h16 => ?_)
                      · skip
                        refine am_call (eU_compute_T i a (rP_kindAt_b i a (i 15)) (rP_firstAt_b i a (i 15)) (rP_secondAt_b i a (i 15)) (rP_thirdAt_b i a (i 15)) tl) ?_
                        exact am_ri (S := sT_step) (by unfold rT_step; simp only [if_neg h1, if_pos h2, if_neg h3, if_neg h5, if_neg h7, if_neg h9, if_neg h11, if_neg h13, if_neg h14, if_neg h15, if_pos h16]; try rfl) (by unfold iT_step aT_step; simp only [if_neg h1, if_pos h2, if_neg h3, if_neg h5, if_neg h7, if_neg h9, if_neg h11, if_neg h13, if_neg h14, if_neg h15, if_pos h16]; try rfl) rfl rfl
                      · skip
                        refine am_split (fun h17 => ?_) (fun h17 => ?_)
                        · skip
                          refine am_call (eP_addressOf_b i a ((i 15) + (1 : Int32)) tl) ?_
                          refine am_call (eU_set_T i a (1 : Int32) (rP_addressOf_b i a ((i 15) + (1 : Int32))) tl) ?_
                          refine am_call (eT_serve i (aU_set_T i a (1 : Int32) (rP_addressOf_b i a ((i 15) + (1 : Int32)))) (rP_firstAt_b i a (i 15)) ((i 15) + (1 : Int32)) tl) ?_
                          exact am_ri (S := sT_step) (by unfold rT_step; simp only [if_neg h1, if_pos h2, if_neg h3, if_neg h5, if_neg h7, if_neg h9, if_neg h11, if_neg h13, if_neg h14, if_neg h15, if_neg h16, if_pos h17]; try rfl) (by unfold iT_step aT_step; simp only [if_neg h1, if_pos h2, if_neg h3, if_neg h5, if_neg h7, if_neg h9, if_neg h11, if_neg h13, if_neg h14, if_neg h15, if_neg h16, if_pos h17]; try rfl) rfl rfl
                        · skip
                          refine am_split (fun h18 => ?_) (fun h18 => ?_)
                          · skip
                            refine am_call (eP_addressOf_b i a (rP_secondAt_b i a (i 15)) tl) ?_
                            refine am_call (eU_set_T i a (rP_firstAt_b i a (i 15)) (rP_addressOf_b i a (rP_secondAt_b i a (i 15))) tl) ?_
                            exact am_ri (S := sT_step) (by unfold rT_step; simp only [if_neg h1, if_pos h2, if_neg h3, if_neg h5, if_neg h7, if_neg h9, if_neg h11, if_neg h13, if_neg h14, if_neg h15, if_neg h16, if_neg h17, if_pos h18]; try rfl) (by unfold iT_step aT_step; simp only [if_neg h1, if_pos h2, if_neg h3, if_neg h5, if_neg h7, if_neg h9, if_neg h11, if_neg h13, if_neg h14, if_neg h15, if_neg h16, if_neg h17, if_pos h18]; try rfl) rfl rfl
                          · skip
                            refine am_call (eU_compute_T i a (rP_kindAt_b i a (i 15)) (rP_firstAt_b i a (i 15)) (rP_secondAt_b i a (i 15)) (rP_thirdAt_b i a (i 15)) tl) ?_
                            exact am_ri (S := sT_step) (by unfold rT_step; simp only [if_neg h1, if_pos h2, if_neg h3, if_neg h5, if_neg h7, if_neg h9, if_neg h11, if_neg h13, if_neg h14, if_neg h15, if_neg h16, if_neg h17, if_neg h18]; try rfl) (by unfold iT_step aT_step; simp only [if_neg h1, if_pos h2, if_neg h3, if_neg h5, if_neg h7, if_neg h9, if_neg h11, if_neg h13, if_neg h14, if_neg h15, if_neg h16, if_neg h17, if_neg h18]; try rfl) rfl rfl
    · skip
      exact am_ri (S := sT_step) (by unfold rT_step; simp only [if_neg h1, if_neg h2]; try rfl) (by unfold iT_step aT_step; simp only [if_neg h1, if_neg h2]; try rfl) rfl rfl

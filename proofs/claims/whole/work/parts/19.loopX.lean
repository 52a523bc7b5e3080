/-! walks by program: the class's loops -/
theorem i32_hi (x : Int32) : x.toInt < 2147483648 := Int32.toInt_lt x
theorem i32_lo (x : Int32) : -2147483648 ≤ x.toInt := Int32.le_toInt x
theorem up_i {n M : Int32} (h : ¬ M ≤ n) : (n + 1).toInt = n.toInt + 1 := by
  rw [le_i] at h
  have h1 := i32_hi M
  have h2 := i32_lo n
  rw [add_i (x := n) (y := 1) (by rw [show (1 : Int32).toInt = 1 from rfl]; omega) (by rw [show (1 : Int32).toInt = 1 from rfl]; omega), show (1 : Int32).toInt = 1 from rfl]
theorem nn_up {n M : Int32} (h0 : 0 ≤ n.toInt) (h : ¬ M ≤ n) : 0 ≤ (n + 1).toInt := by rw [up_i h]; omega
theorem vp_nn {x M : Int32} {N : Nat} (h0 : 0 ≤ x.toInt) (h1 : ¬ M ≤ x) (hM : M.toInt ≤ N) : vp_in x N := by
  rw [le_i] at h1
  rw [vp_in_iff]
  omega
theorem within_ok {x l h : Int32} (hw : ¬ rX_within x l h = 0) : l.toInt ≤ x.toInt ∧ x.toInt ≤ h.toInt := by
  rw [within_i, Decidable.not_not] at hw
  exact hw
theorem wn0 {x h : Int32} (hw : ¬ rX_within x 0 h = 0) : 0 ≤ x.toInt := (within_ok hw).1
theorem ms_ule {n M : Int32} {f : Nat} (h : ¬ M < n) (hM : M.toInt ≤ 1000) (hm : (M.toInt + 1 - n.toInt).toNat < f + 1) : (M.toInt + 1 - (n + 1).toInt).toNat < f := by
  rw [lt_i] at h
  have h2 := i32_lo n
  rw [add_i (x := n) (y := 1) (by rw [show (1 : Int32).toInt = 1 from rfl]; omega) (by rw [show (1 : Int32).toInt = 1 from rfl]; omega), show (1 : Int32).toInt = 1 from rfl]
  omega
theorem ms_dn {n : Int32} {f : Nat} (h : ¬ n ≤ 0) (hm : n.toInt.toNat < f + 1) : (n + (-1)).toInt.toNat < f := by
  rw [le_i, show (0 : Int32).toInt = 0 from rfl] at h
  have h1 := i32_hi n
  rw [add_i (x := n) (y := -1) (by rw [show (-1 : Int32).toInt = -1 from rfl]; omega) (by rw [show (-1 : Int32).toInt = -1 from rfl]; omega), show (-1 : Int32).toInt = -1 from rfl]
  omega
theorem min_le {c : Int32} : (if (20 : Int32) < c then (20 : Int32) else c).toInt ≤ 20 := by
  split
  · decide
  · rename_i h
    rw [lt_i, show (20 : Int32).toInt = 20 from rfl] at h
    omega
theorem min_nn {c : Int32} (h : 0 ≤ c.toInt) : 0 ≤ (if (20 : Int32) < c then (20 : Int32) else c).toInt := by
  split
  · decide
  · exact h
noncomputable def rC_resize_l : Nat → (Nat → Int32) → (Nat → Nat → Int32) → Int32 → Int32 → Int32
  | 0, _, _, _, _ => 0
  | f + 1, i, a, n, k => if (256 : Int32) ≤ k then (1 : Int32) else (rC_resize_l f i (sA a (upd (a 12) (Int32.toNatClampNeg k) (0 : Int32)) 12) n (k + (1 : Int32)))
noncomputable def iC_resize_l : Nat → (Nat → Int32) → (Nat → Nat → Int32) → Int32 → Int32 → Nat → Int32
  | 0, i, _, _, _ => i
  | f + 1, i, a, n, k => if (256 : Int32) ≤ k then (sI i n 5) else (iC_resize_l f i (sA a (upd (a 12) (Int32.toNatClampNeg k) (0 : Int32)) 12) n (k + (1 : Int32)))
noncomputable def aC_resize_l : Nat → (Nat → Int32) → (Nat → Nat → Int32) → Int32 → Int32 → Nat → Nat → Int32
  | 0, _, a, _, _ => a
  | f + 1, i, a, n, k => if (256 : Int32) ≤ k then a else (aC_resize_l f i (sA a (upd (a 12) (Int32.toNatClampNeg k) (0 : Int32)) 12) n (k + (1 : Int32)))
set_option maxHeartbeats 4000000 in
set_option maxRecDepth 100000 in
theorem tC_resize_l (tl : List am_Cl) : ∀ (f : Nat) (i : Nat → Int32) (a : Nat → Nat → Int32) (n k : Int32), ((256 : Int32).toInt - Int32.toInt k).toNat < f → 0 ≤ k.toInt → am_T sC_resize (some (.int (rC_resize_l f i a n k))) (wX (iC_resize_l f i a n k) (aC_resize_l f i a n k) tl) 15 [.ref 15, .int n, .int k] [] (wX i a tl) 0 0 := by
  intro f
  induction f with
  | zero => intro i a n k hm; exact absurd hm (Nat.not_lt_zero _)
  | succ f ih =>
    intro i a n k hm hk
    refine am_wu_T gdC_resize [15] 400 ?_
    refine am_split (fun h1 => ?_) (fun h1 => ?_)
    · skip
      exact am_ri (S := sC_resize) (by simp only [rC_resize_l, if_pos h1]; try rfl) (by simp only [iC_resize_l, aC_resize_l, if_pos h1]; try rfl) rfl rfl
    · skip
      refine And.intro (by exact vp_nn (M := 256) hk (by assumption) (by decide)) ?_
      exact am_Tc (am_Tw (ih i (sA a (upd (a 12) (Int32.toNatClampNeg k) (0 : Int32)) 12) n (k + (1 : Int32)) (ms_up (by assumption) hm) (nn_up hk (by assumption))) ⟨Or.inr rfl, Or.inr rfl, Or.inr rfl, trivial⟩) (by simp only [rC_resize_l, if_neg h1]) (by simp only [iC_resize_l, aC_resize_l, if_neg h1])
theorem zoC_resize_l : ∀ (f : Nat) (i : Nat → Int32) (a : Nat → Nat → Int32) (n k : Int32), rC_resize_l f i a n k = 0 ∨ rC_resize_l f i a n k = 1 := by
  intro f
  induction f with
  | zero => intro i a n k; exact Or.inl rfl
  | succ f ih =>
    intro i a n k
    simp only [rC_resize_l]
    repeat' (first | with_reducible refine zo_ite ?_ ?_ | with_reducible exact ih .. | with_reducible exact Or.inl rfl | with_reducible exact Or.inr rfl)
noncomputable def rC_resize (i : Nat → Int32) (a : Nat → Nat → Int32) (p : Int32) : Int32 := if (rX_within p (0 : Int32) (256 : Int32)) = (0 : Int32) then (0 : Int32) else (rC_resize_l (((256 : Int32).toInt - Int32.toInt p).toNat + 1) i a p p)
noncomputable def iC_resize (i : Nat → Int32) (a : Nat → Nat → Int32) (p : Int32) : Nat → Int32 := if (rX_within p (0 : Int32) (256 : Int32)) = (0 : Int32) then i else (iC_resize_l (((256 : Int32).toInt - Int32.toInt p).toNat + 1) i a p p)
noncomputable def aC_resize (i : Nat → Int32) (a : Nat → Nat → Int32) (p : Int32) : Nat → Nat → Int32 := if (rX_within p (0 : Int32) (256 : Int32)) = (0 : Int32) then a else (aC_resize_l (((256 : Int32).toInt - Int32.toInt p).toNat + 1) i a p p)
set_option maxHeartbeats 4000000 in
set_option maxRecDepth 100000 in
theorem eC_resize (i : Nat → Int32) (a : Nat → Nat → Int32) (p : Int32) (tl : List am_Cl) : am_Ev sC_resize [.ref 15, .int p] (wX i a tl) (some (.int (rC_resize i a p))) (wX (iC_resize i a p) (aC_resize i a p) tl) := by
  refine am_Ev_of cwC_resize rfl rfl rfl (am_wt_T gdC_resize [15] 400 ?_)
  refine am_call (eX_within p (0 : Int32) (256 : Int32) _) ?_
  refine am_split (fun h1 => ?_) (fun h1 => ?_)
  · skip
    exact am_ri (S := sC_resize) (by unfold rC_resize; simp only [if_pos h1]; try rfl) (by unfold iC_resize aC_resize; simp only [if_pos h1]; try rfl) rfl rfl
  · skip
    exact am_Tc (am_Tw (tC_resize_l tl (((256 : Int32).toInt - Int32.toInt p).toNat + 1) i a p p (Nat.lt_add_one _) (wn0 (by assumption))) ⟨Or.inr rfl, Or.inr rfl, Or.inr rfl, trivial⟩) (by unfold rC_resize; simp only [if_neg h1]; try rfl) (by unfold iC_resize aC_resize; simp only [if_neg h1]; try rfl)
theorem zoC_resize (i : Nat → Int32) (a : Nat → Nat → Int32) (p : Int32) : rC_resize i a p = 0 ∨ rC_resize i a p = 1 := by
  unfold rC_resize
  repeat' (first | with_reducible refine zo_ite ?_ ?_ | with_reducible exact zoC_resize_l .. | with_reducible exact Or.inl rfl | with_reducible exact Or.inr rfl)
noncomputable def rP_targetsExist_l : Nat → (Nat → Int32) → (Nat → Nat → Int32) → Int32 → Int32
  | 0, _, _, _ => 0
  | f + 1, i, a, n => if (i 1) ≤ n then (1 : Int32) else if (rP_targetOf i a n) ≤ (i 1) then (rP_targetsExist_l f i a (n + (1 : Int32))) else (0 : Int32)
set_option maxHeartbeats 4000000 in
set_option maxRecDepth 100000 in
theorem tP_targetsExist_l (tl : List am_Cl) : ∀ (f : Nat) (i : Nat → Int32) (a : Nat → Nat → Int32) (n : Int32), (Int32.toInt (i 1) - Int32.toInt n).toNat < f → am_T sP_targetsExist (some (.int (rP_targetsExist_l f i a n))) (wX i a tl) 2 [.ref 1, .int n] [] (wX i a tl) 0 0 := by
  intro f
  induction f with
  | zero => intro i a n hm; exact absurd hm (Nat.not_lt_zero _)
  | succ f ih =>
    intro i a n hm
    refine am_wu_T gdP_targetsExist [2] 400 ?_
    refine am_split (fun h1 => ?_) (fun h1 => ?_)
    · skip
      exact am_ri (S := sP_targetsExist) (by simp only [rP_targetsExist_l, if_pos h1]; try rfl) rfl rfl rfl
    · skip
      refine am_call (eP_targetOf i a n tl) ?_
      refine am_split (fun h2 => ?_) (fun h2 => ?_)
      · skip
        exact am_Tc (am_Tw (ih i a (n + (1 : Int32)) (ms_up (by assumption) hm)) ⟨Or.inr rfl, Or.inr rfl, trivial⟩) (by simp only [rP_targetsExist_l, if_neg h1, if_pos h2]) rfl
      · skip
        exact am_ri (S := sP_targetsExist) (by simp only [rP_targetsExist_l, if_neg h1, if_neg h2]; try rfl) rfl rfl rfl
theorem zoP_targetsExist_l : ∀ (f : Nat) (i : Nat → Int32) (a : Nat → Nat → Int32) (n : Int32), rP_targetsExist_l f i a n = 0 ∨ rP_targetsExist_l f i a n = 1 := by
  intro f
  induction f with
  | zero => intro i a n; exact Or.inl rfl
  | succ f ih =>
    intro i a n
    simp only [rP_targetsExist_l]
    repeat' (first | with_reducible refine zo_ite ?_ ?_ | with_reducible exact ih .. | with_reducible exact Or.inl rfl | with_reducible exact Or.inr rfl)
noncomputable def rP_targetsExist (i : Nat → Int32) (a : Nat → Nat → Int32) : Int32 := (rP_targetsExist_l ((Int32.toInt (i 1) - Int32.toInt (0 : Int32)).toNat + 1) i a (0 : Int32))
set_option maxHeartbeats 4000000 in
set_option maxRecDepth 100000 in
theorem eP_targetsExist (i : Nat → Int32) (a : Nat → Nat → Int32) (tl : List am_Cl) : am_Ev sP_targetsExist [.ref 1] (wX i a tl) (some (.int (rP_targetsExist i a ))) (wX i a tl) := by
  refine am_Ev_of cwP_targetsExist rfl rfl rfl (am_wt_T gdP_targetsExist [2] 400 ?_)
  exact am_Tc (am_Tw (tP_targetsExist_l tl ((Int32.toInt (i 1) - Int32.toInt (0 : Int32)).toNat + 1) i a (0 : Int32) (Nat.lt_add_one _) ) ⟨Or.inr rfl, Or.inr rfl, trivial⟩) (by unfold rP_targetsExist; rfl) rfl
theorem zoP_targetsExist (i : Nat → Int32) (a : Nat → Nat → Int32) : rP_targetsExist i a  = 0 ∨ rP_targetsExist i a  = 1 := by
  unfold rP_targetsExist
  repeat' (first | with_reducible refine zo_ite ?_ ?_ | with_reducible exact zoP_targetsExist_l .. | with_reducible exact Or.inl rfl | with_reducible exact Or.inr rfl)
noncomputable def rP_isAddressTaken_l : Nat → (Nat → Int32) → (Nat → Nat → Int32) → Int32 → Int32 → Int32
  | 0, _, _, _, _ => 0
  | f + 1, i, a, t, n => if (i 1) ≤ n then (0 : Int32) else if (rP_kindAt_w i a n) = (16 : Int32) then if (rP_secondAt_w i a n) = t then (1 : Int32) else (rP_isAddressTaken_l f i a t (n + (1 : Int32))) else (rP_isAddressTaken_l f i a t (n + (1 : Int32)))
set_option maxHeartbeats 4000000 in
set_option maxRecDepth 100000 in
theorem tP_isAddressTaken_l (tl : List am_Cl) : ∀ (f : Nat) (i : Nat → Int32) (a : Nat → Nat → Int32) (t n : Int32), (Int32.toInt (i 1) - Int32.toInt n).toNat < f → am_T sP_isAddressTaken (some (.int (rP_isAddressTaken_l f i a t n))) (wX i a tl) 2 [.ref 1, .int t, .int n] [] (wX i a tl) 0 0 := by
  intro f
  induction f with
  | zero => intro i a t n hm; exact absurd hm (Nat.not_lt_zero _)
  | succ f ih =>
    intro i a t n hm
    refine am_wu_T gdP_isAddressTaken [2] 400 ?_
    refine am_split (fun h1 => ?_) (fun h1 => ?_)
    · skip
      exact am_ri (S := sP_isAddressTaken) (by simp only [rP_isAddressTaken_l, if_pos h1]; try rfl) rfl rfl rfl
    · skip
      refine am_call (eP_kindAt_w i a n tl) ?_
      refine am_split (fun h2 => ?_) (fun h2 => ?_)
      · skip
        refine am_call (eP_secondAt_w i a n tl) ?_
        refine am_split (fun h3 => ?_) (fun h3 => ?_)
        · skip
          exact am_ri (S := sP_isAddressTaken) (by simp only [rP_isAddressTaken_l, if_neg h1, if_pos h2, if_pos h3]; try rfl) rfl rfl rfl
        · skip
          exact am_Tc (am_Tw (ih i a t (n + (1 : Int32)) (ms_up (by assumption) hm)) ⟨Or.inr rfl, Or.inr rfl, Or.inr rfl, trivial⟩) (by simp only [rP_isAddressTaken_l, if_neg h1, if_pos h2, if_neg h3]) rfl
      · skip
        exact am_Tc (am_Tw (ih i a t (n + (1 : Int32)) (ms_up (by assumption) hm)) ⟨Or.inr rfl, Or.inr rfl, Or.inr rfl, trivial⟩) (by simp only [rP_isAddressTaken_l, if_neg h1, if_neg h2]) rfl
theorem zoP_isAddressTaken_l : ∀ (f : Nat) (i : Nat → Int32) (a : Nat → Nat → Int32) (t n : Int32), rP_isAddressTaken_l f i a t n = 0 ∨ rP_isAddressTaken_l f i a t n = 1 := by
  intro f
  induction f with
  | zero => intro i a t n; exact Or.inl rfl
  | succ f ih =>
    intro i a t n
    simp only [rP_isAddressTaken_l]
    repeat' (first | with_reducible refine zo_ite ?_ ?_ | with_reducible exact ih .. | with_reducible exact Or.inl rfl | with_reducible exact Or.inr rfl)
noncomputable def rP_isAddressTaken (i : Nat → Int32) (a : Nat → Nat → Int32) (p : Int32) : Int32 := (rP_isAddressTaken_l ((Int32.toInt (i 1) - Int32.toInt (0 : Int32)).toNat + 1) i a p (0 : Int32))
set_option maxHeartbeats 4000000 in
set_option maxRecDepth 100000 in
theorem eP_isAddressTaken (i : Nat → Int32) (a : Nat → Nat → Int32) (p : Int32) (tl : List am_Cl) : am_Ev sP_isAddressTaken [.ref 1, .int p] (wX i a tl) (some (.int (rP_isAddressTaken i a p))) (wX i a tl) := by
  refine am_Ev_of cwP_isAddressTaken rfl rfl rfl (am_wt_T gdP_isAddressTaken [2] 400 ?_)
  exact am_Tc (am_Tw (tP_isAddressTaken_l tl ((Int32.toInt (i 1) - Int32.toInt (0 : Int32)).toNat + 1) i a p (0 : Int32) (Nat.lt_add_one _) ) ⟨Or.inr rfl, Or.inr rfl, Or.inr rfl, trivial⟩) (by unfold rP_isAddressTaken; rfl) rfl
theorem zoP_isAddressTaken (i : Nat → Int32) (a : Nat → Nat → Int32) (p : Int32) : rP_isAddressTaken i a p = 0 ∨ rP_isAddressTaken i a p = 1 := by
  unfold rP_isAddressTaken
  repeat' (first | with_reducible refine zo_ite ?_ ?_ | with_reducible exact zoP_isAddressTaken_l .. | with_reducible exact Or.inl rfl | with_reducible exact Or.inr rfl)
noncomputable def rP_bundleTargetAt_l : Nat → (Nat → Int32) → (Nat → Nat → Int32) → Int32 → Int32 → Int32
  | 0, _, _, _, _ => 0
  | f + 1, i, a, t, n => if (i 3) < n then (-1 : Int32) else if (rP_addressOf_b i a n) = t then n else (rP_bundleTargetAt_l f i a t (n + (1 : Int32)))
set_option maxHeartbeats 4000000 in
set_option maxRecDepth 100000 in
theorem tP_bundleTargetAt_l (tl : List am_Cl) : ∀ (f : Nat) (i : Nat → Int32) (a : Nat → Nat → Int32) (t n : Int32), (Int32.toInt (i 3) + 1 - Int32.toInt n).toNat < f → (i 3).toInt ≤ 1000 → am_T sP_bundleTargetAt (some (.int (rP_bundleTargetAt_l f i a t n))) (wX i a tl) 11 [.ref 8, .int t, .int n] [] (wX i a tl) 0 0 := by
  intro f
  induction f with
  | zero => intro i a t n hm; exact absurd hm (Nat.not_lt_zero _)
  | succ f ih =>
    intro i a t n hm hc
    refine am_wu_T gdP_bundleTargetAt [11] 400 ?_
    refine am_split (fun h1 => ?_) (fun h1 => ?_)
    · skip
      exact am_ri (S := sP_bundleTargetAt) (by simp only [rP_bundleTargetAt_l, if_pos h1]; try rfl) rfl rfl rfl
    · skip
      refine am_call (eP_addressOf_b i a n tl) ?_
      refine am_split (fun h2 => ?_) (fun h2 => ?_)
      · skip
        exact am_ri (S := sP_bundleTargetAt) (by simp only [rP_bundleTargetAt_l, if_neg h1, if_pos h2]; try rfl) rfl rfl rfl
      · skip
        exact am_Tc (am_Tw (ih i a t (n + (1 : Int32)) (ms_ule (by assumption) hc hm) hc) ⟨Or.inr rfl, Or.inr rfl, Or.inr rfl, trivial⟩) (by simp only [rP_bundleTargetAt_l, if_neg h1, if_neg h2]) rfl
noncomputable def rP_bundleTargetAt (i : Nat → Int32) (a : Nat → Nat → Int32) (p : Int32) : Int32 := if (p - p / (16 : Int32) * (16 : Int32)) = (0 : Int32) then (rP_bundleTargetAt_l ((Int32.toInt (i 3) + 1 - Int32.toInt (0 : Int32)).toNat + 1) i a p (0 : Int32)) else (-1 : Int32)
set_option maxHeartbeats 4000000 in
set_option maxRecDepth 100000 in
theorem eP_bundleTargetAt (i : Nat → Int32) (a : Nat → Nat → Int32) (p : Int32) (tl : List am_Cl) (hc : (i 3).toInt ≤ 1000) : am_Ev sP_bundleTargetAt [.ref 8, .int p] (wX i a tl) (some (.int (rP_bundleTargetAt i a p))) (wX i a tl) := by
  refine am_Ev_of cwP_bundleTargetAt rfl rfl rfl (am_wt_T gdP_bundleTargetAt [11] 400 ?_)
  refine am_split (fun h1 => ?_) (fun h1 => ?_)
  · skip
    exact am_Tc (am_Tw (tP_bundleTargetAt_l tl ((Int32.toInt (i 3) + 1 - Int32.toInt (0 : Int32)).toNat + 1) i a p (0 : Int32) (Nat.lt_add_one _) hc) ⟨Or.inr rfl, Or.inr rfl, Or.inr rfl, trivial⟩) (by unfold rP_bundleTargetAt; simp only [if_pos h1]; try rfl) rfl
  · skip
    exact am_ri (S := sP_bundleTargetAt) (by unfold rP_bundleTargetAt; simp only [if_neg h1]; try rfl) rfl rfl rfl
noncomputable def rL_targetPlace (i : Nat → Int32) (a : Nat → Nat → Int32) (q r : Int32) : Int32 := if (rP_isAddressTaken i a q) = (0 : Int32) then r else (rL_nextWith (0 : Int32) r)
set_option maxHeartbeats 4000000 in
set_option maxRecDepth 100000 in
theorem eL_targetPlace (i : Nat → Int32) (a : Nat → Nat → Int32) (q r : Int32) (tl : List am_Cl) : am_Ev sL_targetPlace [.ref 1, .int q, .int r] (wX i a tl) (some (.int (rL_targetPlace i a q r))) (wX i a tl) := by
  refine am_Ev_of cwL_targetPlace rfl rfl rfl (am_wp_T gdL_targetPlace 400 ?_)
  refine am_call (eP_isAddressTaken i a q tl) ?_
  refine am_split (fun h1 => ?_) (fun h1 => ?_)
  · skip
    exact am_ri (S := sL_targetPlace) (by unfold rL_targetPlace; simp only [if_pos h1]; try rfl) rfl rfl rfl
  · skip
    refine am_call (eL_nextWith (0 : Int32) r _) ?_
    exact am_ri (S := sL_targetPlace) (by unfold rL_targetPlace; simp only [if_neg h1]; try rfl) rfl rfl rfl
noncomputable def rL_linePlace (i : Nat → Int32) (a : Nat → Nat → Int32) (q r : Int32) : Int32 := if (rL_endsBundle (rP_kindAt_w i a q) (rP_firstAt_w i a q)) = (0 : Int32) then if ((r - r / (16 : Int32) * (16 : Int32)) + (rL_bytesOf (rP_kindAt_w i a q))) ≤ (16 : Int32) then r else (rL_nextWith (0 : Int32) r) else (rL_nextWith ((16 : Int32) - (rL_bytesOf (rP_kindAt_w i a q))) r)
set_option maxHeartbeats 4000000 in
set_option maxRecDepth 100000 in
theorem eL_linePlace (i : Nat → Int32) (a : Nat → Nat → Int32) (q r : Int32) (tl : List am_Cl) : am_Ev sL_linePlace [.ref 1, .int q, .int r] (wX i a tl) (some (.int (rL_linePlace i a q r))) (wX i a tl) := by
  refine am_Ev_of cwL_linePlace rfl rfl rfl (am_wp_T gdL_linePlace 400 ?_)
  refine am_call (eP_kindAt_w i a q tl) ?_
  refine am_call (eL_bytesOf (rP_kindAt_w i a q) _) ?_
  refine am_call (eP_kindAt_w i a q tl) ?_
  refine am_call (eP_firstAt_w i a q tl) ?_
  refine am_call (eL_endsBundle (rP_kindAt_w i a q) (rP_firstAt_w i a q) _) ?_
  refine am_split (fun h1 => ?_) (fun h1 => ?_)
  · skip
    refine am_split (fun h2 => ?_) (fun h2 => ?_)
    · skip
      exact am_ri (S := sL_linePlace) (by unfold rL_linePlace; simp only [if_pos h1, if_pos h2]; try rfl) rfl rfl rfl
    · skip
      refine am_call (eL_nextWith (0 : Int32) r _) ?_
      exact am_ri (S := sL_linePlace) (by unfold rL_linePlace; simp only [if_pos h1, if_neg h2]; try rfl) rfl rfl rfl
  · skip
    refine am_call (eL_nextWith ((16 : Int32) - (rL_bytesOf (rP_kindAt_w i a q))) r _) ?_
    exact am_ri (S := sL_linePlace) (by unfold rL_linePlace; simp only [if_neg h1]; try rfl) rfl rfl rfl
noncomputable def rL_place_l : Nat → (Nat → Int32) → (Nat → Nat → Int32) → Int32 → Int32 → Int32
  | 0, _, _, _, _ => 0
  | f + 1, i, a, t, n => if (i 1) ≤ n then (((rL_targetPlace i a (i 1) t) - ((rL_targetPlace i a (i 1) t) - (rL_targetPlace i a (i 1) t) / (16 : Int32) * (16 : Int32))) + (16 : Int32)) else (rL_place_l f i (aP_placeLine i (aP_placeTarget i a n (rL_targetPlace i a n t)) n (rL_linePlace i (aP_placeTarget i a n (rL_targetPlace i a n t)) n (rL_targetPlace i a n t))) ((rL_linePlace i (aP_placeTarget i a n (rL_targetPlace i a n t)) n (rL_targetPlace i a n t)) + (rL_bytesOf (rP_kindAt_w i (aP_placeLine i (aP_placeTarget i a n (rL_targetPlace i a n t)) n (rL_linePlace i (aP_placeTarget i a n (rL_targetPlace i a n t)) n (rL_targetPlace i a n t))) n))) (n + (1 : Int32)))
noncomputable def iL_place_l : Nat → (Nat → Int32) → (Nat → Nat → Int32) → Int32 → Int32 → Nat → Int32
  | 0, i, _, _, _ => i
  | f + 1, i, a, t, n => if (i 1) ≤ n then (sI i (((rL_targetPlace i a (i 1) t) - ((rL_targetPlace i a (i 1) t) - (rL_targetPlace i a (i 1) t) / (16 : Int32) * (16 : Int32))) + (16 : Int32)) 2) else (iL_place_l f i (aP_placeLine i (aP_placeTarget i a n (rL_targetPlace i a n t)) n (rL_linePlace i (aP_placeTarget i a n (rL_targetPlace i a n t)) n (rL_targetPlace i a n t))) ((rL_linePlace i (aP_placeTarget i a n (rL_targetPlace i a n t)) n (rL_targetPlace i a n t)) + (rL_bytesOf (rP_kindAt_w i (aP_placeLine i (aP_placeTarget i a n (rL_targetPlace i a n t)) n (rL_linePlace i (aP_placeTarget i a n (rL_targetPlace i a n t)) n (rL_targetPlace i a n t))) n))) (n + (1 : Int32)))
noncomputable def aL_place_l : Nat → (Nat → Int32) → (Nat → Nat → Int32) → Int32 → Int32 → Nat → Nat → Int32
  | 0, _, a, _, _ => a
  | f + 1, i, a, t, n => if (i 1) ≤ n then (aP_placeTarget i a (i 1) (rL_targetPlace i a (i 1) t)) else (aL_place_l f i (aP_placeLine i (aP_placeTarget i a n (rL_targetPlace i a n t)) n (rL_linePlace i (aP_placeTarget i a n (rL_targetPlace i a n t)) n (rL_targetPlace i a n t))) ((rL_linePlace i (aP_placeTarget i a n (rL_targetPlace i a n t)) n (rL_targetPlace i a n t)) + (rL_bytesOf (rP_kindAt_w i (aP_placeLine i (aP_placeTarget i a n (rL_targetPlace i a n t)) n (rL_linePlace i (aP_placeTarget i a n (rL_targetPlace i a n t)) n (rL_targetPlace i a n t))) n))) (n + (1 : Int32)))
set_option maxHeartbeats 4000000 in
set_option maxRecDepth 100000 in
theorem tL_place_l (tl : List am_Cl) : ∀ (f : Nat) (i : Nat → Int32) (a : Nat → Nat → Int32) (t n : Int32), (Int32.toInt (i 1) - Int32.toInt n).toNat < f → am_T sL_place (some (.int (rL_place_l f i a t n))) (wX (iL_place_l f i a t n) (aL_place_l f i a t n) tl) 5 [.ref 1, .int t, .int n] [] (wX i a tl) 0 0 := by
  intro f
  induction f with
  | zero => intro i a t n hm; exact absurd hm (Nat.not_lt_zero _)
  | succ f ih =>
    intro i a t n hm
    refine am_wu_T gdL_place [5] 400 ?_
    refine am_split (fun h1 => ?_) (fun h1 => ?_)
    · skip
      refine am_call (eL_targetPlace i a (i 1) t tl) ?_
      refine am_call (eP_placeTarget i a (i 1) (rL_targetPlace i a (i 1) t) tl) ?_
      exact am_ri (S := sL_place) (by simp only [rL_place_l, if_pos h1]; try rfl) (by simp only [iL_place_l, aL_place_l, if_pos h1]; try rfl) rfl rfl
    · skip
      refine am_call (eL_targetPlace i a n t tl) ?_
      refine am_call (eP_placeTarget i a n (rL_targetPlace i a n t) tl) ?_
      refine am_call (eL_linePlace i (aP_placeTarget i a n (rL_targetPlace i a n t)) n (rL_targetPlace i a n t) tl) ?_
      refine am_call (eP_placeLine i (aP_placeTarget i a n (rL_targetPlace i a n t)) n (rL_linePlace i (aP_placeTarget i a n (rL_targetPlace i a n t)) n (rL_targetPlace i a n t)) tl) ?_
      refine am_call (eP_kindAt_w i (aP_placeLine i (aP_placeTarget i a n (rL_targetPlace i a n t)) n (rL_linePlace i (aP_placeTarget i a n (rL_targetPlace i a n t)) n (rL_targetPlace i a n t))) n tl) ?_
      refine am_call (eL_bytesOf (rP_kindAt_w i (aP_placeLine i (aP_placeTarget i a n (rL_targetPlace i a n t)) n (rL_linePlace i (aP_placeTarget i a n (rL_targetPlace i a n t)) n (rL_targetPlace i a n t))) n) _) ?_
      exact am_Tc (am_Tw (ih i (aP_placeLine i (aP_placeTarget i a n (rL_targetPlace i a n t)) n (rL_linePlace i (aP_placeTarget i a n (rL_targetPlace i a n t)) n (rL_targetPlace i a n t))) ((rL_linePlace i (aP_placeTarget i a n (rL_targetPlace i a n t)) n (rL_targetPlace i a n t)) + (rL_bytesOf (rP_kindAt_w i (aP_placeLine i (aP_placeTarget i a n (rL_targetPlace i a n t)) n (rL_linePlace i (aP_placeTarget i a n (rL_targetPlace i a n t)) n (rL_targetPlace i a n t))) n))) (n + (1 : Int32)) (ms_up (by assumption) hm)) ⟨Or.inr rfl, Or.inr rfl, Or.inr rfl, trivial⟩) (by simp only [rL_place_l, if_neg h1]) (by simp only [iL_place_l, aL_place_l, if_neg h1])
noncomputable def rL_place (i : Nat → Int32) (a : Nat → Nat → Int32) : Int32 := (rL_place_l ((Int32.toInt (i 1) - Int32.toInt (0 : Int32)).toNat + 1) i a (48 : Int32) (0 : Int32))
noncomputable def iL_place (i : Nat → Int32) (a : Nat → Nat → Int32) : Nat → Int32 := (iL_place_l ((Int32.toInt (i 1) - Int32.toInt (0 : Int32)).toNat + 1) i a (48 : Int32) (0 : Int32))
noncomputable def aL_place (i : Nat → Int32) (a : Nat → Nat → Int32) : Nat → Nat → Int32 := (aL_place_l ((Int32.toInt (i 1) - Int32.toInt (0 : Int32)).toNat + 1) i a (48 : Int32) (0 : Int32))
set_option maxHeartbeats 4000000 in
set_option maxRecDepth 100000 in
theorem eL_place (i : Nat → Int32) (a : Nat → Nat → Int32) (tl : List am_Cl) : am_Ev sL_place [.ref 1] (wX i a tl) (some (.int (rL_place i a ))) (wX (iL_place i a ) (aL_place i a ) tl) := by
  refine am_Ev_of cwL_place rfl rfl rfl (am_wt_T gdL_place [5] 400 ?_)
  exact am_Tc (am_Tw (tL_place_l tl ((Int32.toInt (i 1) - Int32.toInt (0 : Int32)).toNat + 1) i a (48 : Int32) (0 : Int32) (Nat.lt_add_one _) ) ⟨Or.inr rfl, Or.inr rfl, Or.inr rfl, trivial⟩) (by unfold rL_place; rfl) (by unfold iL_place aL_place; rfl)

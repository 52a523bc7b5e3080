/-! walks by program: the class's methods with state, without loops -/
theorem lt_i {x y : Int32} : x < y ↔ x.toInt < y.toInt := Int32.lt_iff_toInt_lt
theorem le_i {x y : Int32} : x ≤ y ↔ x.toInt ≤ y.toInt := Int32.le_iff_toInt_le
theorem vp_lit {x : Int32} {N : Nat} (h : (decide (x < 0) || Nat.ble N x.toNatClampNeg) = false) : vp_in x N := by
  simp only [Bool.or_eq_false_iff, decide_eq_false_iff_not] at h
  rintro (h1 | h1)
  · exact h.1 h1
  · have := Nat.ble_eq.mpr h1
    rw [h.2] at this
    cases this
theorem vp_of {x M : Int32} {N : Nat} (h0 : ¬ x < 0) (h1 : ¬ M ≤ x) (hM : M.toInt = N) : vp_in x N := by
  rw [vp_in_iff]
  rw [lt_i] at h0
  rw [le_i] at h1
  have : (0 : Int32).toInt = 0 := rfl
  omega
theorem vp_oft {x M : Int32} {N : Nat} (h0 : ¬ x < 0) (h1 : x < M) (hM : M.toInt = N) : vp_in x N := by
  rw [vp_in_iff]
  rw [lt_i] at h0 h1
  have : (0 : Int32).toInt = 0 := rfl
  omega
theorem vp_ofp {x M : Int32} {N : Nat} (h0 : ¬ x ≤ 0) (h1 : ¬ M ≤ x) (hM : M.toInt = N) : vp_in x N := by
  rw [vp_in_iff]
  rw [le_i] at h0 h1
  have : (0 : Int32).toInt = 0 := rfl
  omega
theorem vp_ofl {x M K : Int32} {N : Nat} (h0 : ¬ x < K) (hK : 0 ≤ K.toInt) (h1 : ¬ M ≤ x) (hM : M.toInt = N) : vp_in x N := by
  rw [vp_in_iff]
  rw [lt_i] at h0
  rw [le_i] at h1
  omega
theorem in_has {n c : Int32} (h : ¬ rP_has n c = 0) : vp_in n 20 := by
  unfold rP_has at h
  split at h
  · exact absurd rfl h
  · split at h
    · exact absurd rfl h
    · split at h
      · exact absurd rfl h
      · exact vp_of (M := 20) (by assumption) (by assumption) rfl
theorem within_i {x l h : Int32} : rX_within x l h = 0 ↔ ¬ (l.toInt ≤ x.toInt ∧ x.toInt ≤ h.toInt) := by
  unfold rX_within
  simp only [lt_i]
  split
  · simp; omega
  · split
    · simp; omega
    · simp; omega
theorem in_addr {t c : Int32} (h : ¬ rX_within t 0 (if (20 : Int32) < c then (20 : Int32) else c) = 0) : vp_in t 21 := by
  rw [within_i, Decidable.not_not] at h
  rw [vp_in_iff]
  have h0 : (0 : Int32).toInt = 0 := rfl
  have h20 : (20 : Int32).toInt = 20 := rfl
  split at h
  · omega
  · rename_i hc
    rw [lt_i] at hc
    omega
theorem in_tg {t : Int32} (h : ¬ rX_within t 0 20 = 0) : vp_in t 21 := by
  rw [within_i, Decidable.not_not] at h
  rw [vp_in_iff]
  have h0 : (0 : Int32).toInt = 0 := rfl
  have h20 : (20 : Int32).toInt = 20 := rfl
  omega
theorem div_i (x y : Int32) (h : ¬ y.toInt = -1) : (x / y).toInt = x.toInt.tdiv y.toInt := by
  rw [Int32.toInt_div_of_ne_right]
  intro hy
  apply h
  rw [hy]; rfl
theorem in_div {x : Int32} (h0 : ¬ x < 0) (h1 : ¬ (64 : Int32) ≤ x) : vp_in (x / 4) 16 := by
  rw [vp_in_iff, div_i x 4 (by decide)]
  rw [lt_i] at h0
  rw [le_i] at h1
  have e0 : (0 : Int32).toInt = 0 := rfl
  have e1 : (64 : Int32).toInt = 64 := rfl
  have e2 : (4 : Int32).toInt = 4 := rfl
  rw [e2]
  rw [Int.tdiv_eq_ediv_of_nonneg (by omega)]
  omega
noncomputable def rP_kindAt_w (i : Nat → Int32) (a : Nat → Nat → Int32) (p : Int32) : Int32 := if (rP_has p (i 1)) = (0 : Int32) then (-1 : Int32) else ((a 0) (Int32.toNatClampNeg p))
set_option maxHeartbeats 4000000 in
set_option maxRecDepth 100000 in
theorem eP_kindAt_w (i : Nat → Int32) (a : Nat → Nat → Int32) (p : Int32) (tl : List am_Cl) : am_Ev sP_kindAt [.ref 1, .int p] (wX i a tl) (some (.int (rP_kindAt_w i a p))) (wX i a tl) := by
  refine am_Ev_of cwP_kindAt rfl rfl rfl (am_wp_T gdP_kindAt 400 ?_)
  refine am_call (eP_has p (i 1) _) ?_
  refine am_split (fun h1 => ?_) (fun h1 => ?_)
  · skip
    exact am_ri (S := sP_kindAt) (by unfold rP_kindAt_w; simp only [if_pos h1]; try rfl) rfl rfl rfl
  · skip
    refine And.intro (by exact in_has (by assumption)) ?_
    exact am_ri (S := sP_kindAt) (by unfold rP_kindAt_w; simp only [if_neg h1]; try rfl) rfl rfl rfl
noncomputable def rP_firstAt_w (i : Nat → Int32) (a : Nat → Nat → Int32) (p : Int32) : Int32 := if (rP_has p (i 1)) = (0 : Int32) then (0 : Int32) else ((a 1) (Int32.toNatClampNeg p))
set_option maxHeartbeats 4000000 in
set_option maxRecDepth 100000 in
theorem eP_firstAt_w (i : Nat → Int32) (a : Nat → Nat → Int32) (p : Int32) (tl : List am_Cl) : am_Ev sP_firstAt [.ref 1, .int p] (wX i a tl) (some (.int (rP_firstAt_w i a p))) (wX i a tl) := by
  refine am_Ev_of cwP_firstAt rfl rfl rfl (am_wp_T gdP_firstAt 400 ?_)
  refine am_call (eP_has p (i 1) _) ?_
  refine am_split (fun h1 => ?_) (fun h1 => ?_)
  · skip
    exact am_ri (S := sP_firstAt) (by unfold rP_firstAt_w; simp only [if_pos h1]; try rfl) rfl rfl rfl
  · skip
    refine And.intro (by exact in_has (by assumption)) ?_
    exact am_ri (S := sP_firstAt) (by unfold rP_firstAt_w; simp only [if_neg h1]; try rfl) rfl rfl rfl
noncomputable def rP_secondAt_w (i : Nat → Int32) (a : Nat → Nat → Int32) (p : Int32) : Int32 := if (rP_has p (i 1)) = (0 : Int32) then (0 : Int32) else ((a 2) (Int32.toNatClampNeg p))
set_option maxHeartbeats 4000000 in
set_option maxRecDepth 100000 in
theorem eP_secondAt_w (i : Nat → Int32) (a : Nat → Nat → Int32) (p : Int32) (tl : List am_Cl) : am_Ev sP_secondAt [.ref 1, .int p] (wX i a tl) (some (.int (rP_secondAt_w i a p))) (wX i a tl) := by
  refine am_Ev_of cwP_secondAt rfl rfl rfl (am_wp_T gdP_secondAt 400 ?_)
  refine am_call (eP_has p (i 1) _) ?_
  refine am_split (fun h1 => ?_) (fun h1 => ?_)
  · skip
    exact am_ri (S := sP_secondAt) (by unfold rP_secondAt_w; simp only [if_pos h1]; try rfl) rfl rfl rfl
  · skip
    refine And.intro (by exact in_has (by assumption)) ?_
    exact am_ri (S := sP_secondAt) (by unfold rP_secondAt_w; simp only [if_neg h1]; try rfl) rfl rfl rfl
noncomputable def rP_thirdAt_w (i : Nat → Int32) (a : Nat → Nat → Int32) (p : Int32) : Int32 := if (rP_has p (i 1)) = (0 : Int32) then (0 : Int32) else ((a 3) (Int32.toNatClampNeg p))
set_option maxHeartbeats 4000000 in
set_option maxRecDepth 100000 in
theorem eP_thirdAt_w (i : Nat → Int32) (a : Nat → Nat → Int32) (p : Int32) (tl : List am_Cl) : am_Ev sP_thirdAt [.ref 1, .int p] (wX i a tl) (some (.int (rP_thirdAt_w i a p))) (wX i a tl) := by
  refine am_Ev_of cwP_thirdAt rfl rfl rfl (am_wp_T gdP_thirdAt 400 ?_)
  refine am_call (eP_has p (i 1) _) ?_
  refine am_split (fun h1 => ?_) (fun h1 => ?_)
  · skip
    exact am_ri (S := sP_thirdAt) (by unfold rP_thirdAt_w; simp only [if_pos h1]; try rfl) rfl rfl rfl
  · skip
    refine And.intro (by exact in_has (by assumption)) ?_
    exact am_ri (S := sP_thirdAt) (by unfold rP_thirdAt_w; simp only [if_neg h1]; try rfl) rfl rfl rfl
noncomputable def rP_startAt_w (i : Nat → Int32) (a : Nat → Nat → Int32) (p : Int32) : Int32 := if (rP_has p (i 1)) = (0 : Int32) then (-1 : Int32) else ((a 5) (Int32.toNatClampNeg p))
set_option maxHeartbeats 4000000 in
set_option maxRecDepth 100000 in
theorem eP_startAt_w (i : Nat → Int32) (a : Nat → Nat → Int32) (p : Int32) (tl : List am_Cl) : am_Ev sP_startAt [.ref 1, .int p] (wX i a tl) (some (.int (rP_startAt_w i a p))) (wX i a tl) := by
  refine am_Ev_of cwP_startAt rfl rfl rfl (am_wp_T gdP_startAt 400 ?_)
  refine am_call (eP_has p (i 1) _) ?_
  refine am_split (fun h1 => ?_) (fun h1 => ?_)
  · skip
    exact am_ri (S := sP_startAt) (by unfold rP_startAt_w; simp only [if_pos h1]; try rfl) rfl rfl rfl
  · skip
    refine And.intro (by exact in_has (by assumption)) ?_
    exact am_ri (S := sP_startAt) (by unfold rP_startAt_w; simp only [if_neg h1]; try rfl) rfl rfl rfl
noncomputable def rP_addressOf_w (i : Nat → Int32) (a : Nat → Nat → Int32) (p : Int32) : Int32 := if (rX_within p (0 : Int32) (if (20 : Int32) < (i 1) then (20 : Int32) else (i 1))) = (0 : Int32) then (-1 : Int32) else ((a 4) (Int32.toNatClampNeg p))
set_option maxHeartbeats 4000000 in
set_option maxRecDepth 100000 in
theorem eP_addressOf_w (i : Nat → Int32) (a : Nat → Nat → Int32) (p : Int32) (tl : List am_Cl) : am_Ev sP_addressOf [.ref 1, .int p] (wX i a tl) (some (.int (rP_addressOf_w i a p))) (wX i a tl) := by
  refine am_Ev_of cwP_addressOf rfl rfl rfl (am_wp_T gdP_addressOf 400 ?_)
  refine am_call (eX_within p (0 : Int32) (if (20 : Int32) < (i 1) then (20 : Int32) else (i 1)) _) ?_
  refine am_split (fun h1 => ?_) (fun h1 => ?_)
  · skip
    exact am_ri (S := sP_addressOf) (by unfold rP_addressOf_w; simp only [if_pos h1]; try rfl) rfl rfl rfl
  · skip
    refine And.intro (by exact in_addr (by assumption)) ?_
    exact am_ri (S := sP_addressOf) (by unfold rP_addressOf_w; simp only [if_neg h1]; try rfl) rfl rfl rfl
noncomputable def rP_kindAt_b (i : Nat → Int32) (a : Nat → Nat → Int32) (p : Int32) : Int32 := if (rP_has p (i 3)) = (0 : Int32) then (-1 : Int32) else ((a 6) (Int32.toNatClampNeg p))
set_option maxHeartbeats 4000000 in
set_option maxRecDepth 100000 in
theorem eP_kindAt_b (i : Nat → Int32) (a : Nat → Nat → Int32) (p : Int32) (tl : List am_Cl) : am_Ev sP_kindAt [.ref 8, .int p] (wX i a tl) (some (.int (rP_kindAt_b i a p))) (wX i a tl) := by
  refine am_Ev_of cwP_kindAt rfl rfl rfl (am_wp_T gdP_kindAt 400 ?_)
  refine am_call (eP_has p (i 3) _) ?_
  refine am_split (fun h1 => ?_) (fun h1 => ?_)
  · skip
    exact am_ri (S := sP_kindAt) (by unfold rP_kindAt_b; simp only [if_pos h1]; try rfl) rfl rfl rfl
  · skip
    refine And.intro (by exact in_has (by assumption)) ?_
    exact am_ri (S := sP_kindAt) (by unfold rP_kindAt_b; simp only [if_neg h1]; try rfl) rfl rfl rfl
noncomputable def rP_firstAt_b (i : Nat → Int32) (a : Nat → Nat → Int32) (p : Int32) : Int32 := if (rP_has p (i 3)) = (0 : Int32) then (0 : Int32) else ((a 7) (Int32.toNatClampNeg p))
set_option maxHeartbeats 4000000 in
set_option maxRecDepth 100000 in
theorem eP_firstAt_b (i : Nat → Int32) (a : Nat → Nat → Int32) (p : Int32) (tl : List am_Cl) : am_Ev sP_firstAt [.ref 8, .int p] (wX i a tl) (some (.int (rP_firstAt_b i a p))) (wX i a tl) := by
  refine am_Ev_of cwP_firstAt rfl rfl rfl (am_wp_T gdP_firstAt 400 ?_)
  refine am_call (eP_has p (i 3) _) ?_
  refine am_split (fun h1 => ?_) (fun h1 => ?_)
  · skip
    exact am_ri (S := sP_firstAt) (by unfold rP_firstAt_b; simp only [if_pos h1]; try rfl) rfl rfl rfl
  · skip
    refine And.intro (by exact in_has (by assumption)) ?_
    exact am_ri (S := sP_firstAt) (by unfold rP_firstAt_b; simp only [if_neg h1]; try rfl) rfl rfl rfl
noncomputable def rP_secondAt_b (i : Nat → Int32) (a : Nat → Nat → Int32) (p : Int32) : Int32 := if (rP_has p (i 3)) = (0 : Int32) then (0 : Int32) else ((a 8) (Int32.toNatClampNeg p))
set_option maxHeartbeats 4000000 in
set_option maxRecDepth 100000 in
theorem eP_secondAt_b (i : Nat → Int32) (a : Nat → Nat → Int32) (p : Int32) (tl : List am_Cl) : am_Ev sP_secondAt [.ref 8, .int p] (wX i a tl) (some (.int (rP_secondAt_b i a p))) (wX i a tl) := by
  refine am_Ev_of cwP_secondAt rfl rfl rfl (am_wp_T gdP_secondAt 400 ?_)
  refine am_call (eP_has p (i 3) _) ?_
  refine am_split (fun h1 => ?_) (fun h1 => ?_)
  · skip
    exact am_ri (S := sP_secondAt) (by unfold rP_secondAt_b; simp only [if_pos h1]; try rfl) rfl rfl rfl
  · skip
    refine And.intro (by exact in_has (by assumption)) ?_
    exact am_ri (S := sP_secondAt) (by unfold rP_secondAt_b; simp only [if_neg h1]; try rfl) rfl rfl rfl
noncomputable def rP_thirdAt_b (i : Nat → Int32) (a : Nat → Nat → Int32) (p : Int32) : Int32 := if (rP_has p (i 3)) = (0 : Int32) then (0 : Int32) else ((a 9) (Int32.toNatClampNeg p))
set_option maxHeartbeats 4000000 in
set_option maxRecDepth 100000 in
theorem eP_thirdAt_b (i : Nat → Int32) (a : Nat → Nat → Int32) (p : Int32) (tl : List am_Cl) : am_Ev sP_thirdAt [.ref 8, .int p] (wX i a tl) (some (.int (rP_thirdAt_b i a p))) (wX i a tl) := by
  refine am_Ev_of cwP_thirdAt rfl rfl rfl (am_wp_T gdP_thirdAt 400 ?_)
  refine am_call (eP_has p (i 3) _) ?_
  refine am_split (fun h1 => ?_) (fun h1 => ?_)
  · skip
    exact am_ri (S := sP_thirdAt) (by unfold rP_thirdAt_b; simp only [if_pos h1]; try rfl) rfl rfl rfl
  · skip
    refine And.intro (by exact in_has (by assumption)) ?_
    exact am_ri (S := sP_thirdAt) (by unfold rP_thirdAt_b; simp only [if_neg h1]; try rfl) rfl rfl rfl
noncomputable def rP_startAt_b (i : Nat → Int32) (a : Nat → Nat → Int32) (p : Int32) : Int32 := if (rP_has p (i 3)) = (0 : Int32) then (-1 : Int32) else ((a 11) (Int32.toNatClampNeg p))
set_option maxHeartbeats 4000000 in
set_option maxRecDepth 100000 in
theorem eP_startAt_b (i : Nat → Int32) (a : Nat → Nat → Int32) (p : Int32) (tl : List am_Cl) : am_Ev sP_startAt [.ref 8, .int p] (wX i a tl) (some (.int (rP_startAt_b i a p))) (wX i a tl) := by
  refine am_Ev_of cwP_startAt rfl rfl rfl (am_wp_T gdP_startAt 400 ?_)
  refine am_call (eP_has p (i 3) _) ?_
  refine am_split (fun h1 => ?_) (fun h1 => ?_)
  · skip
    exact am_ri (S := sP_startAt) (by unfold rP_startAt_b; simp only [if_pos h1]; try rfl) rfl rfl rfl
  · skip
    refine And.intro (by exact in_has (by assumption)) ?_
    exact am_ri (S := sP_startAt) (by unfold rP_startAt_b; simp only [if_neg h1]; try rfl) rfl rfl rfl
noncomputable def rP_addressOf_b (i : Nat → Int32) (a : Nat → Nat → Int32) (p : Int32) : Int32 := if (rX_within p (0 : Int32) (if (20 : Int32) < (i 3) then (20 : Int32) else (i 3))) = (0 : Int32) then (-1 : Int32) else ((a 10) (Int32.toNatClampNeg p))
set_option maxHeartbeats 4000000 in
set_option maxRecDepth 100000 in
theorem eP_addressOf_b (i : Nat → Int32) (a : Nat → Nat → Int32) (p : Int32) (tl : List am_Cl) : am_Ev sP_addressOf [.ref 8, .int p] (wX i a tl) (some (.int (rP_addressOf_b i a p))) (wX i a tl) := by
  refine am_Ev_of cwP_addressOf rfl rfl rfl (am_wp_T gdP_addressOf 400 ?_)
  refine am_call (eX_within p (0 : Int32) (if (20 : Int32) < (i 3) then (20 : Int32) else (i 3)) _) ?_
  refine am_split (fun h1 => ?_) (fun h1 => ?_)
  · skip
    exact am_ri (S := sP_addressOf) (by unfold rP_addressOf_b; simp only [if_pos h1]; try rfl) rfl rfl rfl
  · skip
    refine And.intro (by exact in_addr (by assumption)) ?_
    exact am_ri (S := sP_addressOf) (by unfold rP_addressOf_b; simp only [if_neg h1]; try rfl) rfl rfl rfl
noncomputable def rP_targetOf (i : Nat → Int32) (a : Nat → Nat → Int32) (p : Int32) : Int32 := if (rP_kindAt_w i a p) = (8 : Int32) then (rP_thirdAt_w i a p) else if (rP_kindAt_w i a p) = (9 : Int32) then (rP_thirdAt_w i a p) else if (rP_kindAt_w i a p) = (10 : Int32) then (rP_thirdAt_w i a p) else if (rP_kindAt_w i a p) = (11 : Int32) then (rP_secondAt_w i a p) else if (rP_kindAt_w i a p) = (12 : Int32) then (0 : Int32) else if (rP_kindAt_w i a p) = (13 : Int32) then (0 : Int32) else if (rP_kindAt_w i a p) = (14 : Int32) then (0 : Int32) else if (rP_kindAt_w i a p) = (15 : Int32) then (0 : Int32) else if (rP_kindAt_w i a p) = (16 : Int32) then (rP_secondAt_w i a p) else (0 : Int32)
set_option maxHeartbeats 4000000 in
set_option maxRecDepth 100000 in
theorem eP_targetOf (i : Nat → Int32) (a : Nat → Nat → Int32) (p : Int32) (tl : List am_Cl) : am_Ev sP_targetOf [.ref 1, .int p] (wX i a tl) (some (.int (rP_targetOf i a p))) (wX i a tl) := by
  refine am_Ev_of cwP_targetOf rfl rfl rfl (am_wp_T gdP_targetOf 400 ?_)
  refine am_call (eP_kindAt_w i a p tl) ?_
  refine am_split (fun h1 => ?_) (fun h1 => ?_)
  · skip
    refine am_call (eP_thirdAt_w i a p tl) ?_
    exact am_ri (S := sP_targetOf) (by unfold rP_targetOf; simp only [if_pos h1]; try rfl) rfl rfl rfl
  · skip
    refine am_split (fun h2 => ?_) (fun h2 => ?_)
    · skip
      refine am_call (eP_thirdAt_w i a p tl) ?_
      exact am_ri (S := sP_targetOf) (by unfold rP_targetOf; simp only [if_neg h1, if_pos h2]; try rfl) rfl rfl rfl
    · skip
      refine am_split (fun h3 => ?_) (fun h3 => ?_)
      · skip
        refine am_call (eP_thirdAt_w i a p tl) ?_
        exact am_ri (S := sP_targetOf) (by unfold rP_targetOf; simp only [if_neg h1, if_neg h2, if_pos h3]; try rfl) rfl rfl rfl
      · skip
        refine am_split (fun h4 => ?_) (fun h4 => ?_)
        · skip
          refine am_call (eP_secondAt_w i a p tl) ?_
          exact am_ri (S := sP_targetOf) (by unfold rP_targetOf; simp only [if_neg h1, if_neg h2, if_neg h3, if_pos h4]; try rfl) rfl rfl rfl
        · skip
          refine am_split (fun h5 => ?_) (fun h5 => ?_)
          · skip
            exact am_ri (S := sP_targetOf) (by unfold rP_targetOf; simp only [if_neg h1, if_neg h2, if_neg h3, if_neg h4, if_pos h5]; try rfl) rfl rfl rfl
          · skip
            refine am_split (fun h6 => ?_) (fun h6 => ?_)
            · skip
              exact am_ri (S := sP_targetOf) (by unfold rP_targetOf; simp only [if_neg h1, if_neg h2, if_neg h3, if_neg h4, if_neg h5, if_pos h6]; try rfl) rfl rfl rfl
            · skip
              refine am_split (fun h7 => ?_) (fun h7 => ?_)
              · skip
                exact am_ri (S := sP_targetOf) (by unfold rP_targetOf; simp only [if_neg h1, if_neg h2, if_neg h3, if_neg h4, if_neg h5, if_neg h6, if_pos h7]; try rfl) rfl rfl rfl
              · skip
                refine am_split (fun h8 => ?_) (fun h8 => ?_)
                · skip
                  exact am_ri (S := sP_targetOf) (by unfold rP_targetOf; simp only [if_neg h1, if_neg h2, if_neg h3, if_neg h4, if_neg h5, if_neg h6, if_neg h7, if_pos h8]; try rfl) rfl rfl rfl
                · skip
                  refine am_split (fun h9 => ?_) (fun h9 => ?_)
                  · skip
                    refine am_call (eP_secondAt_w i a p tl) ?_
                    exact am_ri (S := sP_targetOf) (by unfold rP_targetOf; simp only [if_neg h1, if_neg h2, if_neg h3, if_neg h4, if_neg h5, if_neg h6, if_neg h7, if_neg h8, if_pos h9]; try rfl) rfl rfl rfl
                  · skip
                    exact am_ri (S := sP_targetOf) (by unfold rP_targetOf; simp only [if_neg h1, if_neg h2, if_neg h3, if_neg h4, if_neg h5, if_neg h6, if_neg h7, if_neg h8, if_neg h9]; try rfl) rfl rfl rfl
noncomputable def rP_add (i : Nat → Int32) (a : Nat → Nat → Int32) (p q r s : Int32) : Int32 := if (rP_has (i 1) (20 : Int32)) = (0 : Int32) then (0 : Int32) else (1 : Int32)
noncomputable def iP_add (i : Nat → Int32) (a : Nat → Nat → Int32) (p q r s : Int32) : Nat → Int32 := if (rP_has (i 1) (20 : Int32)) = (0 : Int32) then i else (sI i ((i 1) + (1 : Int32)) 1)
noncomputable def aP_add (i : Nat → Int32) (a : Nat → Nat → Int32) (p q r s : Int32) : Nat → Nat → Int32 := if (rP_has (i 1) (20 : Int32)) = (0 : Int32) then a else (sA (sA (sA (sA a (upd (a 0) (Int32.toNatClampNeg (i 1)) p) 0) (upd (a 1) (Int32.toNatClampNeg (i 1)) q) 1) (upd (a 2) (Int32.toNatClampNeg (i 1)) r) 2) (upd (a 3) (Int32.toNatClampNeg (i 1)) s) 3)
set_option maxHeartbeats 4000000 in
set_option maxRecDepth 100000 in
theorem eP_add (i : Nat → Int32) (a : Nat → Nat → Int32) (p q r s : Int32) (tl : List am_Cl) : am_Ev sP_add [.ref 1, .int p, .int q, .int r, .int s] (wX i a tl) (some (.int (rP_add i a p q r s))) (wX (iP_add i a p q r s) (aP_add i a p q r s) tl) := by
  refine am_Ev_of cwP_add rfl rfl rfl (am_wp_T gdP_add 400 ?_)
  refine am_call (eP_has (i 1) (20 : Int32) _) ?_
  refine am_split (fun h1 => ?_) (fun h1 => ?_)
  · skip
    exact am_ri (S := sP_add) (by unfold rP_add; simp only [if_pos h1]; try rfl) (by unfold iP_add aP_add; simp only [if_pos h1]; try rfl) rfl rfl
  · skip
    refine And.intro (by exact in_has (by assumption)) ?_
    refine And.intro (by exact in_has (by assumption)) ?_
    refine And.intro (by exact in_has (by assumption)) ?_
    refine And.intro (by exact in_has (by assumption)) ?_
    exact am_ri (S := sP_add) (by unfold rP_add; simp only [if_neg h1]; try rfl) (by unfold iP_add aP_add; simp only [if_neg h1]; try rfl) rfl rfl
theorem zoP_add (i : Nat → Int32) (a : Nat → Nat → Int32) (p q r s : Int32) : rP_add i a p q r s = 0 ∨ rP_add i a p q r s = 1 := by
  unfold rP_add
  repeat' (first | with_reducible refine zo_ite ?_ ?_ | with_reducible exact Or.inl rfl | with_reducible exact Or.inr rfl)
noncomputable def aP_placeTarget (i : Nat → Int32) (a : Nat → Nat → Int32) (p q : Int32) : Nat → Nat → Int32 := if (rX_within p (0 : Int32) (20 : Int32)) = (0 : Int32) then a else (sA a (upd (a 4) (Int32.toNatClampNeg p) q) 4)
set_option maxHeartbeats 4000000 in
set_option maxRecDepth 100000 in
theorem eP_placeTarget (i : Nat → Int32) (a : Nat → Nat → Int32) (p q : Int32) (tl : List am_Cl) : am_Ev sP_placeTarget [.ref 1, .int p, .int q] (wX i a tl) none (wX i (aP_placeTarget i a p q) tl) := by
  refine am_Ev_of cwP_placeTarget rfl rfl rfl (am_wp_T gdP_placeTarget 400 ?_)
  refine am_call (eX_within p (0 : Int32) (20 : Int32) _) ?_
  refine am_split (fun h1 => ?_) (fun h1 => ?_)
  · skip
    exact am_rv (S := sP_placeTarget) (by unfold aP_placeTarget; simp only [if_pos h1]; try rfl) rfl
  · skip
    refine And.intro (by exact in_tg (by assumption)) ?_
    exact am_rv (S := sP_placeTarget) (by unfold aP_placeTarget; simp only [if_neg h1]; try rfl) rfl
noncomputable def aP_placeLine (i : Nat → Int32) (a : Nat → Nat → Int32) (p q : Int32) : Nat → Nat → Int32 := if (rP_has p (20 : Int32)) = (0 : Int32) then a else (sA a (upd (a 5) (Int32.toNatClampNeg p) q) 5)
set_option maxHeartbeats 4000000 in
set_option maxRecDepth 100000 in
theorem eP_placeLine (i : Nat → Int32) (a : Nat → Nat → Int32) (p q : Int32) (tl : List am_Cl) : am_Ev sP_placeLine [.ref 1, .int p, .int q] (wX i a tl) none (wX i (aP_placeLine i a p q) tl) := by
  refine am_Ev_of cwP_placeLine rfl rfl rfl (am_wp_T gdP_placeLine 400 ?_)
  refine am_call (eP_has p (20 : Int32) _) ?_
  refine am_split (fun h1 => ?_) (fun h1 => ?_)
  · skip
    exact am_rv (S := sP_placeLine) (by unfold aP_placeLine; simp only [if_pos h1]; try rfl) rfl
  · skip
    refine And.intro (by exact in_has (by assumption)) ?_
    exact am_rv (S := sP_placeLine) (by unfold aP_placeLine; simp only [if_neg h1]; try rfl) rfl
noncomputable def rC_has (i : Nat → Int32) (a : Nat → Nat → Int32) (p : Int32) : Int32 := if p < (0 : Int32) then (0 : Int32) else if (i 5) ≤ p then (0 : Int32) else if (256 : Int32) ≤ p then (0 : Int32) else (1 : Int32)
set_option maxHeartbeats 4000000 in
set_option maxRecDepth 100000 in
theorem eC_has (i : Nat → Int32) (a : Nat → Nat → Int32) (p : Int32) (tl : List am_Cl) : am_Ev sC_has [.ref 15, .int p] (wX i a tl) (some (.int (rC_has i a p))) (wX i a tl) := by
  refine am_Ev_of cwC_has rfl rfl rfl (am_wp_T gdC_has 400 ?_)
  refine am_split (fun h1 => ?_) (fun h1 => ?_)
  · skip
    exact am_ri (S := sC_has) (by unfold rC_has; simp only [if_pos h1]; try rfl) rfl rfl rfl
  · skip
    refine am_split (fun h2 => ?_) (fun h2 => ?_)
    · skip
      exact am_ri (S := sC_has) (by unfold rC_has; simp only [if_neg h1, if_pos h2]; try rfl) rfl rfl rfl
    · skip
      refine am_split (fun h3 => ?_) (fun h3 => ?_)
      · skip
        exact am_ri (S := sC_has) (by unfold rC_has; simp only [if_neg h1, if_neg h2, if_pos h3]; try rfl) rfl rfl rfl
      · skip
        exact am_ri (S := sC_has) (by unfold rC_has; simp only [if_neg h1, if_neg h2, if_neg h3]; try rfl) rfl rfl rfl
theorem zoC_has (i : Nat → Int32) (a : Nat → Nat → Int32) (p : Int32) : rC_has i a p = 0 ∨ rC_has i a p = 1 := by
  unfold rC_has
  repeat' (first | with_reducible refine zo_ite ?_ ?_ | with_reducible exact Or.inl rfl | with_reducible exact Or.inr rfl)
theorem in_chas {i : Nat → Int32} {a : Nat → Nat → Int32} {p : Int32} (h : ¬ rC_has i a p = 0) : vp_in p 256 := by
  unfold rC_has at h
  split at h
  · exact absurd rfl h
  · split at h
    · exact absurd rfl h
    · split at h
      · exact absurd rfl h
      · exact vp_of (M := 256) (by assumption) (by assumption) rfl
noncomputable def rC_put (i : Nat → Int32) (a : Nat → Nat → Int32) (p q : Int32) : Int32 := if (rC_has i a p) = (0 : Int32) then (0 : Int32) else if (rX_within q (0 : Int32) (255 : Int32)) = (0 : Int32) then (0 : Int32) else (1 : Int32)
noncomputable def aC_put (i : Nat → Int32) (a : Nat → Nat → Int32) (p q : Int32) : Nat → Nat → Int32 := if (rC_has i a p) = (0 : Int32) then a else if (rX_within q (0 : Int32) (255 : Int32)) = (0 : Int32) then a else (sA a (upd (a 12) (Int32.toNatClampNeg p) q) 12)
set_option maxHeartbeats 4000000 in
set_option maxRecDepth 100000 in
theorem eC_put (i : Nat → Int32) (a : Nat → Nat → Int32) (p q : Int32) (tl : List am_Cl) : am_Ev sC_put [.ref 15, .int p, .int q] (wX i a tl) (some (.int (rC_put i a p q))) (wX i (aC_put i a p q) tl) := by
  refine am_Ev_of cwC_put rfl rfl rfl (am_wp_T gdC_put 400 ?_)
  refine am_call (eC_has i a p tl) ?_
  refine am_split (fun h1 => ?_) (fun h1 => ?_)
  · skip
    exact am_ri (S := sC_put) (by unfold rC_put; simp only [if_pos h1]; try rfl) (by unfold aC_put; simp only [if_pos h1]; try rfl) rfl rfl
  · skip
    refine am_call (eX_within q (0 : Int32) (255 : Int32) _) ?_
    refine am_split (fun h2 => ?_) (fun h2 => ?_)
    · skip
      exact am_ri (S := sC_put) (by unfold rC_put; simp only [if_neg h1, if_pos h2]; try rfl) (by unfold aC_put; simp only [if_neg h1, if_pos h2]; try rfl) rfl rfl
    · skip
      refine And.intro (by exact in_chas (by assumption)) ?_
      exact am_ri (S := sC_put) (by unfold rC_put; simp only [if_neg h1, if_neg h2]; try rfl) (by unfold aC_put; simp only [if_neg h1, if_neg h2]; try rfl) rfl rfl
theorem zoC_put (i : Nat → Int32) (a : Nat → Nat → Int32) (p q : Int32) : rC_put i a p q = 0 ∨ rC_put i a p q = 1 := by
  unfold rC_put
  repeat' (first | with_reducible refine zo_ite ?_ ?_ | with_reducible exact Or.inl rfl | with_reducible exact Or.inr rfl)
noncomputable def rC_byteAt (i : Nat → Int32) (a : Nat → Nat → Int32) (p : Int32) : Int32 := if (rC_has i a p) = (0 : Int32) then (-1 : Int32) else ((a 12) (Int32.toNatClampNeg p))
set_option maxHeartbeats 4000000 in
set_option maxRecDepth 100000 in
theorem eC_byteAt (i : Nat → Int32) (a : Nat → Nat → Int32) (p : Int32) (tl : List am_Cl) : am_Ev sC_byteAt [.ref 15, .int p] (wX i a tl) (some (.int (rC_byteAt i a p))) (wX i a tl) := by
  refine am_Ev_of cwC_byteAt rfl rfl rfl (am_wp_T gdC_byteAt 400 ?_)
  refine am_call (eC_has i a p tl) ?_
  refine am_split (fun h1 => ?_) (fun h1 => ?_)
  · skip
    exact am_ri (S := sC_byteAt) (by unfold rC_byteAt; simp only [if_pos h1]; try rfl) rfl rfl rfl
  · skip
    refine And.intro (by exact in_chas (by assumption)) ?_
    exact am_ri (S := sC_byteAt) (by unfold rC_byteAt; simp only [if_neg h1]; try rfl) rfl rfl rfl
noncomputable def rC_fetch (i : Nat → Int32) (a : Nat → Nat → Int32) (p : Int32) : Int32 := if (rC_has i a p) = (0 : Int32) then (0 : Int32) else if (rC_has i a (p + (1 : Int32))) = (0 : Int32) then (0 : Int32) else if (rF_isLong (((a 12) (Int32.toNatClampNeg p)) ||| (((a 12) (Int32.toNatClampNeg (p + (1 : Int32)))) <<< ((8 : Int32) &&& 31)))) = (0 : Int32) then (((a 12) (Int32.toNatClampNeg p)) ||| (((a 12) (Int32.toNatClampNeg (p + (1 : Int32)))) <<< ((8 : Int32) &&& 31))) else if (rC_has i a (p + (2 : Int32))) = (0 : Int32) then (0 : Int32) else if (rC_has i a (p + (3 : Int32))) = (0 : Int32) then (0 : Int32) else (((((a 12) (Int32.toNatClampNeg p)) ||| (((a 12) (Int32.toNatClampNeg (p + (1 : Int32)))) <<< ((8 : Int32) &&& 31))) ||| (((a 12) (Int32.toNatClampNeg (p + (2 : Int32)))) <<< ((16 : Int32) &&& 31))) ||| (((a 12) (Int32.toNatClampNeg (p + (3 : Int32)))) <<< ((24 : Int32) &&& 31)))
set_option maxHeartbeats 4000000 in
set_option maxRecDepth 100000 in
theorem eC_fetch (i : Nat → Int32) (a : Nat → Nat → Int32) (p : Int32) (tl : List am_Cl) : am_Ev sC_fetch [.ref 15, .int p] (wX i a tl) (some (.int (rC_fetch i a p))) (wX i a tl) := by
  refine am_Ev_of cwC_fetch rfl rfl rfl (am_wp_T gdC_fetch 400 ?_)
  refine am_call (eC_has i a p tl) ?_
  refine am_split (fun h1 => ?_) (fun h1 => ?_)
  · skip
    exact am_ri (S := sC_fetch) (by unfold rC_fetch; simp only [if_pos h1]; try rfl) rfl rfl rfl
  · skip
    refine am_call (eC_has i a (p + (1 : Int32)) tl) ?_
    refine am_split (fun h2 => ?_) (fun h2 => ?_)
    · skip
      exact am_ri (S := sC_fetch) (by unfold rC_fetch; simp only [if_neg h1, if_pos h2]; try rfl) rfl rfl rfl
    · skip
      refine And.intro (by exact in_chas (by assumption)) ?_
      refine And.intro (by exact in_chas (by assumption)) ?_
      refine am_call (eF_isLong (((a 12) (Int32.toNatClampNeg p)) ||| (((a 12) (Int32.toNatClampNeg (p + (1 : Int32)))) <<< ((8 : Int32) &&& 31))) _) ?_
      refine am_split (fun h3 => ?_) (fun h3 => ?_)
      · skip
        exact am_ri (S := sC_fetch) (by unfold rC_fetch; simp only [if_neg h1, if_neg h2, if_pos h3]; try rfl) rfl rfl rfl
      · skip
        refine am_call (eC_has i a (p + (2 : Int32)) tl) ?_
        refine am_split (fun h4 => ?_) (fun h4 => ?_)
        · skip
          exact am_ri (S := sC_fetch) (by unfold rC_fetch; simp only [if_neg h1, if_neg h2, if_neg h3, if_pos h4]; try rfl) rfl rfl rfl
        · skip
          refine am_call (eC_has i a (p + (3 : Int32)) tl) ?_
          refine am_split (fun h5 => ?_) (fun h5 => ?_)
          · skip
            exact am_ri (S := sC_fetch) (by unfold rC_fetch; simp only [if_neg h1, if_neg h2, if_neg h3, if_neg h4, if_pos h5]; try rfl) rfl rfl rfl
          · skip
            refine And.intro (by exact in_chas (by assumption)) ?_
            refine And.intro (by exact in_chas (by assumption)) ?_
            exact am_ri (S := sC_fetch) (by unfold rC_fetch; simp only [if_neg h1, if_neg h2, if_neg h3, if_neg h4, if_neg h5]; try rfl) rfl rfl rfl
noncomputable def rI_add (i : Nat → Int32) (a : Nat → Nat → Int32) (p : Int32) : Int32 := if (i 7) < (0 : Int32) then (0 : Int32) else if (i 7) < (20 : Int32) then (1 : Int32) else (0 : Int32)
noncomputable def iI_add (i : Nat → Int32) (a : Nat → Nat → Int32) (p : Int32) : Nat → Int32 := if (i 7) < (0 : Int32) then i else if (i 7) < (20 : Int32) then (sI i ((i 7) + (1 : Int32)) 7) else i
noncomputable def aI_add (i : Nat → Int32) (a : Nat → Nat → Int32) (p : Int32) : Nat → Nat → Int32 := if (i 7) < (0 : Int32) then a else if (i 7) < (20 : Int32) then (sA a (upd (a 14) (Int32.toNatClampNeg (i 7)) p) 14) else a
set_option maxHeartbeats 4000000 in
set_option maxRecDepth 100000 in
theorem eI_add (i : Nat → Int32) (a : Nat → Nat → Int32) (p : Int32) (tl : List am_Cl) : am_Ev sI_add [.ref 20, .int p] (wX i a tl) (some (.int (rI_add i a p))) (wX (iI_add i a p) (aI_add i a p) tl) := by
  refine am_Ev_of cwI_add rfl rfl rfl (am_wp_T gdI_add 400 ?_)
  refine am_split (fun h1 => ?_) (fun h1 => ?_)
  · skip
    exact am_ri (S := sI_add) (by unfold rI_add; simp only [if_pos h1]; try rfl) (by unfold iI_add aI_add; simp only [if_pos h1]; try rfl) rfl rfl
  · skip
    refine am_split (fun h2 => ?_) (fun h2 => ?_)
    · skip
      refine And.intro (by exact vp_oft (M := 20) (by assumption) (by assumption) rfl) ?_
      exact am_ri (S := sI_add) (by unfold rI_add; simp only [if_neg h1, if_pos h2]; try rfl) (by unfold iI_add aI_add; simp only [if_neg h1, if_pos h2]; try rfl) rfl rfl
    · skip
      exact am_ri (S := sI_add) (by unfold rI_add; simp only [if_neg h1, if_neg h2]; try rfl) (by unfold iI_add aI_add; simp only [if_neg h1, if_neg h2]; try rfl) rfl rfl
theorem zoI_add (i : Nat → Int32) (a : Nat → Nat → Int32) (p : Int32) : rI_add i a p = 0 ∨ rI_add i a p = 1 := by
  unfold rI_add
  repeat' (first | with_reducible refine zo_ite ?_ ?_ | with_reducible exact Or.inl rfl | with_reducible exact Or.inr rfl)
noncomputable def rI_valueAt (i : Nat → Int32) (a : Nat → Nat → Int32) (p : Int32) : Int32 := if p < (0 : Int32) then (-1 : Int32) else if (i 7) ≤ p then (-1 : Int32) else if (20 : Int32) ≤ p then (-1 : Int32) else ((a 14) (Int32.toNatClampNeg p))
set_option maxHeartbeats 4000000 in
set_option maxRecDepth 100000 in
theorem eI_valueAt (i : Nat → Int32) (a : Nat → Nat → Int32) (p : Int32) (tl : List am_Cl) : am_Ev sI_valueAt [.ref 20, .int p] (wX i a tl) (some (.int (rI_valueAt i a p))) (wX i a tl) := by
  refine am_Ev_of cwI_valueAt rfl rfl rfl (am_wp_T gdI_valueAt 400 ?_)
  refine am_split (fun h1 => ?_) (fun h1 => ?_)
  · skip
    exact am_ri (S := sI_valueAt) (by unfold rI_valueAt; simp only [if_pos h1]; try rfl) rfl rfl rfl
  · skip
    refine am_split (fun h2 => ?_) (fun h2 => ?_)
    · skip
      exact am_ri (S := sI_valueAt) (by unfold rI_valueAt; simp only [if_neg h1, if_pos h2]; try rfl) rfl rfl rfl
    · skip
      refine am_split (fun h3 => ?_) (fun h3 => ?_)
      · skip
        exact am_ri (S := sI_valueAt) (by unfold rI_valueAt; simp only [if_neg h1, if_neg h2, if_pos h3]; try rfl) rfl rfl rfl
      · skip
        refine And.intro (by exact vp_of (M := 20) (by assumption) (by assumption) rfl) ?_
        exact am_ri (S := sI_valueAt) (by unfold rI_valueAt; simp only [if_neg h1, if_neg h2, if_neg h3]; try rfl) rfl rfl rfl
noncomputable def rU_get_M (i : Nat → Int32) (a : Nat → Nat → Int32) (p : Int32) : Int32 := if p < (0 : Int32) then (0 : Int32) else if (32 : Int32) ≤ p then (0 : Int32) else ((a 15) (Int32.toNatClampNeg p))
set_option maxHeartbeats 4000000 in
set_option maxRecDepth 100000 in
theorem eU_get_M (i : Nat → Int32) (a : Nat → Nat → Int32) (p : Int32) (tl : List am_Cl) : am_Ev sU_get [.ref 22, .int p] (wX i a tl) (some (.int (rU_get_M i a p))) (wX i a tl) := by
  refine am_Ev_of cwU_get rfl rfl rfl (am_wp_T gdU_get 400 ?_)
  refine am_split (fun h1 => ?_) (fun h1 => ?_)
  · skip
    exact am_ri (S := sU_get) (by unfold rU_get_M; simp only [if_pos h1]; try rfl) rfl rfl rfl
  · skip
    refine am_split (fun h2 => ?_) (fun h2 => ?_)
    · skip
      exact am_ri (S := sU_get) (by unfold rU_get_M; simp only [if_neg h1, if_pos h2]; try rfl) rfl rfl rfl
    · skip
      refine And.intro (by exact vp_of (M := 32) (by assumption) (by assumption) rfl) ?_
      exact am_ri (S := sU_get) (by unfold rU_get_M; simp only [if_neg h1, if_neg h2]; try rfl) rfl rfl rfl
noncomputable def aU_set_M (i : Nat → Int32) (a : Nat → Nat → Int32) (p q : Int32) : Nat → Nat → Int32 := if p ≤ (0 : Int32) then a else if (32 : Int32) ≤ p then a else (sA a (upd (a 15) (Int32.toNatClampNeg p) q) 15)
set_option maxHeartbeats 4000000 in
set_option maxRecDepth 100000 in
theorem eU_set_M (i : Nat → Int32) (a : Nat → Nat → Int32) (p q : Int32) (tl : List am_Cl) : am_Ev sU_set [.ref 22, .int p, .int q] (wX i a tl) none (wX i (aU_set_M i a p q) tl) := by
  refine am_Ev_of cwU_set rfl rfl rfl (am_wp_T gdU_set 400 ?_)
  refine am_split (fun h1 => ?_) (fun h1 => ?_)
  · skip
    exact am_rv (S := sU_set) (by unfold aU_set_M; simp only [if_pos h1]; try rfl) rfl
  · skip
    refine am_split (fun h2 => ?_) (fun h2 => ?_)
    · skip
      exact am_rv (S := sU_set) (by unfold aU_set_M; simp only [if_neg h1, if_pos h2]; try rfl) rfl
    · skip
      refine And.intro (by exact vp_ofp (M := 32) (by assumption) (by assumption) rfl) ?_
      exact am_rv (S := sU_set) (by unfold aU_set_M; simp only [if_neg h1, if_neg h2]; try rfl) rfl
noncomputable def rU_wordAt_M (i : Nat → Int32) (a : Nat → Nat → Int32) (p : Int32) : Int32 := if p < (0 : Int32) then (0 : Int32) else if (16 : Int32) ≤ p then (0 : Int32) else ((a 16) (Int32.toNatClampNeg p))
set_option maxHeartbeats 4000000 in
set_option maxRecDepth 100000 in
theorem eU_wordAt_M (i : Nat → Int32) (a : Nat → Nat → Int32) (p : Int32) (tl : List am_Cl) : am_Ev sU_wordAt [.ref 22, .int p] (wX i a tl) (some (.int (rU_wordAt_M i a p))) (wX i a tl) := by
  refine am_Ev_of cwU_wordAt rfl rfl rfl (am_wp_T gdU_wordAt 400 ?_)
  refine am_split (fun h1 => ?_) (fun h1 => ?_)
  · skip
    exact am_ri (S := sU_wordAt) (by unfold rU_wordAt_M; simp only [if_pos h1]; try rfl) rfl rfl rfl
  · skip
    refine am_split (fun h2 => ?_) (fun h2 => ?_)
    · skip
      exact am_ri (S := sU_wordAt) (by unfold rU_wordAt_M; simp only [if_neg h1, if_pos h2]; try rfl) rfl rfl rfl
    · skip
      refine And.intro (by exact vp_of (M := 16) (by assumption) (by assumption) rfl) ?_
      exact am_ri (S := sU_wordAt) (by unfold rU_wordAt_M; simp only [if_neg h1, if_neg h2]; try rfl) rfl rfl rfl
noncomputable def rU_outputAt_M (i : Nat → Int32) (a : Nat → Nat → Int32) (p : Int32) : Int32 := if p < (0 : Int32) then (0 : Int32) else if (i 9) ≤ p then (0 : Int32) else if (40 : Int32) ≤ p then (0 : Int32) else ((a 17) (Int32.toNatClampNeg p))
set_option maxHeartbeats 4000000 in
set_option maxRecDepth 100000 in
theorem eU_outputAt_M (i : Nat → Int32) (a : Nat → Nat → Int32) (p : Int32) (tl : List am_Cl) : am_Ev sU_outputAt [.ref 22, .int p] (wX i a tl) (some (.int (rU_outputAt_M i a p))) (wX i a tl) := by
  refine am_Ev_of cwU_outputAt rfl rfl rfl (am_wp_T gdU_outputAt 400 ?_)
  refine am_split (fun h1 => ?_) (fun h1 => ?_)
  · skip
    exact am_ri (S := sU_outputAt) (by unfold rU_outputAt_M; simp only [if_pos h1]; try rfl) rfl rfl rfl
  · skip
    refine am_split (fun h2 => ?_) (fun h2 => ?_)
    · skip
      exact am_ri (S := sU_outputAt) (by unfold rU_outputAt_M; simp only [if_neg h1, if_pos h2]; try rfl) rfl rfl rfl
    · skip
      refine am_split (fun h3 => ?_) (fun h3 => ?_)
      · skip
        exact am_ri (S := sU_outputAt) (by unfold rU_outputAt_M; simp only [if_neg h1, if_neg h2, if_pos h3]; try rfl) rfl rfl rfl
      · skip
        refine And.intro (by exact vp_of (M := 40) (by assumption) (by assumption) rfl) ?_
        exact am_ri (S := sU_outputAt) (by unfold rU_outputAt_M; simp only [if_neg h1, if_neg h2, if_neg h3]; try rfl) rfl rfl rfl
noncomputable def iU_readInput_M (i : Nat → Int32) (a : Nat → Nat → Int32) : Nat → Int32 := if (20 : Int32) ≤ (i 8) then i else (sI i ((i 8) + (1 : Int32)) 8)
noncomputable def aU_readInput_M (i : Nat → Int32) (a : Nat → Nat → Int32) : Nat → Nat → Int32 := if (20 : Int32) ≤ (i 8) then (aU_set_M i a (10 : Int32) (rI_valueAt i a (i 8))) else (aU_set_M i a (10 : Int32) (rI_valueAt i a (i 8)))
set_option maxHeartbeats 4000000 in
set_option maxRecDepth 100000 in
theorem eU_readInput_M (i : Nat → Int32) (a : Nat → Nat → Int32) (tl : List am_Cl) : am_Ev sU_readInput [.ref 22] (wX i a tl) none (wX (iU_readInput_M i a ) (aU_readInput_M i a ) tl) := by
  refine am_Ev_of cwU_readInput rfl rfl rfl (am_wp_T gdU_readInput 400 ?_)
  refine am_call (eI_valueAt i a (i 8) tl) ?_
  refine am_call (eU_set_M i a (10 : Int32) (rI_valueAt i a (i 8)) tl) ?_
  refine am_split (fun h1 => ?_) (fun h1 => ?_)
  · skip
    exact am_rv (S := sU_readInput) (by unfold iU_readInput_M aU_readInput_M; simp only [if_pos h1]; try rfl) rfl
  · skip
    exact am_rv (S := sU_readInput) (by unfold iU_readInput_M aU_readInput_M; simp only [if_neg h1]; try rfl) rfl
noncomputable def iU_writeOutput_M (i : Nat → Int32) (a : Nat → Nat → Int32) : Nat → Int32 := if (i 9) < (0 : Int32) then i else if (40 : Int32) ≤ (i 9) then i else (sI i ((i 9) + (1 : Int32)) 9)
noncomputable def aU_writeOutput_M (i : Nat → Int32) (a : Nat → Nat → Int32) : Nat → Nat → Int32 := if (i 9) < (0 : Int32) then a else if (40 : Int32) ≤ (i 9) then a else (sA a (upd (a 17) (Int32.toNatClampNeg (i 9)) (rU_get_M i a (10 : Int32))) 17)
set_option maxHeartbeats 4000000 in
set_option maxRecDepth 100000 in
theorem eU_writeOutput_M (i : Nat → Int32) (a : Nat → Nat → Int32) (tl : List am_Cl) : am_Ev sU_writeOutput [.ref 22] (wX i a tl) none (wX (iU_writeOutput_M i a ) (aU_writeOutput_M i a ) tl) := by
  refine am_Ev_of cwU_writeOutput rfl rfl rfl (am_wp_T gdU_writeOutput 400 ?_)
  refine am_split (fun h1 => ?_) (fun h1 => ?_)
  · skip
    exact am_rv (S := sU_writeOutput) (by unfold iU_writeOutput_M aU_writeOutput_M; simp only [if_pos h1]; try rfl) rfl
  · skip
    refine am_split (fun h2 => ?_) (fun h2 => ?_)
    · skip
      exact am_rv (S := sU_writeOutput) (by unfold iU_writeOutput_M aU_writeOutput_M; simp only [if_neg h1, if_pos h2]; try rfl) rfl
    · skip
      refine am_call (eU_get_M i a (10 : Int32) tl) ?_
      refine And.intro (by exact vp_of (M := 40) (by assumption) (by assumption) rfl) ?_
      exact am_rv (S := sU_writeOutput) (by unfold iU_writeOutput_M aU_writeOutput_M; simp only [if_neg h1, if_neg h2]; try rfl) rfl
noncomputable def rU_branches_M (i : Nat → Int32) (a : Nat → Nat → Int32) (p q r : Int32) : Int32 := if p = (8 : Int32) then if (rU_get_M i a q) = (rU_get_M i a r) then (1 : Int32) else (0 : Int32) else if p = (9 : Int32) then if (rU_get_M i a q) = (rU_get_M i a r) then (0 : Int32) else (1 : Int32) else if (rU_get_M i a r) ≤ (rU_get_M i a q) then (0 : Int32) else (1 : Int32)
set_option maxHeartbeats 4000000 in
set_option maxRecDepth 100000 in
theorem eU_branches_M (i : Nat → Int32) (a : Nat → Nat → Int32) (p q r : Int32) (tl : List am_Cl) : am_Ev sU_branches [.ref 22, .int p, .int q, .int r] (wX i a tl) (some (.int (rU_branches_M i a p q r))) (wX i a tl) := by
  refine am_Ev_of cwU_branches rfl rfl rfl (am_wp_T gdU_branches 400 ?_)
  refine am_split (fun h1 => ?_) (fun h1 => ?_)
  · skip
    refine am_call (eU_get_M i a q tl) ?_
    refine am_call (eU_get_M i a r tl) ?_
    refine am_split (fun h2 => ?_) (fun h2 => ?_)
    · skip
      exact am_ri (S := sU_branches) (by unfold rU_branches_M; simp only [if_pos h1, if_pos h2]; try rfl) rfl rfl rfl
    · skip
      exact am_ri (S := sU_branches) (by unfold rU_branches_M; simp only [if_pos h1, if_neg h2]; try rfl) rfl rfl rfl
  · skip
    refine am_split (fun h3 => ?_) (fun h3 => ?_)
    · skip
      refine am_call (eU_get_M i a q tl) ?_
      refine am_call (eU_get_M i a r tl) ?_
      refine am_split (fun h4 => ?_) (fun h4 => ?_)
      · skip
        exact am_ri (S := sU_branches) (by unfold rU_branches_M; simp only [if_neg h1, if_pos h3, if_pos h4]; try rfl) rfl rfl rfl
      · skip
        exact am_ri (S := sU_branches) (by unfold rU_branches_M; simp only [if_neg h1, if_pos h3, if_neg h4]; try rfl) rfl rfl rfl
    · skip
      refine am_call (eU_get_M i a q tl) ?_
      refine am_call (eU_get_M i a r tl) ?_
      refine am_split (fun h5 => ?_) (fun h5 => ?_)
      · skip
        exact am_ri (S := sU_branches) (by unfold rU_branches_M; simp only [if_neg h1, if_neg h3, if_pos h5]; try rfl) rfl rfl rfl
      · skip
        exact am_ri (S := sU_branches) (by unfold rU_branches_M; simp only [if_neg h1, if_neg h3, if_neg h5]; try rfl) rfl rfl rfl
theorem zoU_branches_M (i : Nat → Int32) (a : Nat → Nat → Int32) (p q r : Int32) : rU_branches_M i a p q r = 0 ∨ rU_branches_M i a p q r = 1 := by
  unfold rU_branches_M
  repeat' (first | with_reducible refine zo_ite ?_ ?_ | with_reducible exact Or.inl rfl | with_reducible exact Or.inr rfl)
noncomputable def aU_compute_M (i : Nat → Int32) (a : Nat → Nat → Int32) (p q r s : Int32) : Nat → Nat → Int32 := if p = (0 : Int32) then (aU_set_M i a q ((rU_get_M i a r) + (rU_get_M i a s))) else if p = (1 : Int32) then (aU_set_M i a q ((rU_get_M i a r) - (rU_get_M i a s))) else if p = (2 : Int32) then (aU_set_M i a q ((rU_get_M i a r) &&& (rU_get_M i a s))) else if p = (3 : Int32) then (aU_set_M i a q ((rU_get_M i a r) ||| (rU_get_M i a s))) else if p = (4 : Int32) then (aU_set_M i a q ((rU_get_M i a r) + s)) else if p = (5 : Int32) then (aU_set_M i a q (r <<< ((12 : Int32) &&& 31))) else if p = (6 : Int32) then a else if p = (7 : Int32) then a else if p = (8 : Int32) then a else if p = (9 : Int32) then a else if p = (10 : Int32) then a else if p = (11 : Int32) then a else if p = (12 : Int32) then a else if p = (13 : Int32) then (aU_set_M i a q ((rU_get_M i a q) + r)) else if p = (14 : Int32) then (aU_set_M i a q (rU_get_M i a r)) else a
set_option maxHeartbeats 4000000 in
set_option maxRecDepth 100000 in
theorem eU_compute_M (i : Nat → Int32) (a : Nat → Nat → Int32) (p q r s : Int32) (tl : List am_Cl) : am_Ev sU_compute [.ref 22, .int p, .int q, .int r, .int s] (wX i a tl) none (wX i (aU_compute_M i a p q r s) tl) := by
  refine am_Ev_of cwU_compute rfl rfl rfl (am_wp_T gdU_compute 400 ?_)
  refine am_split (fun h1 => ?_) (fun h1 => ?_)
  · skip
    refine am_call (eU_get_M i a r tl) ?_
    refine am_call (eU_get_M i a s tl) ?_
    refine am_call (eU_set_M i a q ((rU_get_M i a r) + (rU_get_M i a s)) tl) ?_
    exact am_rv (S := sU_compute) (by unfold aU_compute_M; simp only [if_pos h1]; try rfl) rfl
  · skip
    refine am_split (fun h2 => ?_) (fun h2 => ?_)
    · skip
      refine am_call (eU_get_M i a r tl) ?_
      refine am_call (eU_get_M i a s tl) ?_
      refine am_call (eU_set_M i a q ((rU_get_M i a r) - (rU_get_M i a s)) tl) ?_
      exact am_rv (S := sU_compute) (by unfold aU_compute_M; simp only [if_neg h1, if_pos h2]; try rfl) rfl
    · skip
      refine am_split (fun h3 => ?_) (fun h3 => ?_)
      · skip
        refine am_call (eU_get_M i a r tl) ?_
        refine am_call (eU_get_M i a s tl) ?_
        refine am_call (eU_set_M i a q ((rU_get_M i a r) &&& (rU_get_M i a s)) tl) ?_
        exact am_rv (S := sU_compute) (by unfold aU_compute_M; simp only [if_neg h1, if_neg h2, if_pos h3]; try rfl) rfl
      · skip
        refine am_split (fun h4 => ?_) (fun h4 => ?_)
        · skip
          refine am_call (eU_get_M i a r tl) ?_
          refine am_call (eU_get_M i a s tl) ?_
          refine am_call (eU_set_M i a q ((rU_get_M i a r) ||| (rU_get_M i a s)) tl) ?_
          exact am_rv (S := sU_compute) (by unfold aU_compute_M; simp only [if_neg h1, if_neg h2, if_neg h3, if_pos h4]; try rfl) rfl
        · skip
          refine am_split (fun h5 => ?_) (fun h5 => ?_)
          · skip
            refine am_call (eU_get_M i a r tl) ?_
            refine am_call (eU_set_M i a q ((rU_get_M i a r) + s) tl) ?_
            exact am_rv (S := sU_compute) (by unfold aU_compute_M; simp only [if_neg h1, if_neg h2, if_neg h3, if_neg h4, if_pos h5]; try rfl) rfl
          · skip
            refine am_split (fun h6 => ?_) (fun h6 => ?_)
            · skip
              refine am_call (eU_set_M i a q (r <<< ((12 : Int32) &&& 31)) tl) ?_
              exact am_rv (S := sU_compute) (by unfold aU_compute_M; simp only [if_neg h1, if_neg h2, if_neg h3, if_neg h4, if_neg h5, if_pos h6]; try rfl) rfl
            · skip
              refine am_split (fun h7 => ?_) (fun h7 => ?_)
              · skip
                exact am_rv (S := sU_compute) (by unfold aU_compute_M; simp only [if_neg h1, if_neg h2, if_neg h3, if_neg h4, if_neg h5, if_neg h6, if_pos h7]; try rfl) rfl
              · skip
                refine am_split (fun h8 => ?_) (fun h8 => ?_)
                · skip
                  exact am_rv (S := sU_compute) (by unfold aU_compute_M; simp only [if_neg h1, if_neg h2, if_neg h3, if_neg h4, if_neg h5, if_neg h6, if_neg h7, if_pos h8]; try rfl) rfl
                · skip
                  refine am_split (fun h9 => ?_) (fun h9 => ?_)
                  · skip
                    exact am_rv (S := sU_compute) (by unfold aU_compute_M; simp only [if_neg h1, if_neg h2, if_neg h3, if_neg h4, if_neg h5, if_neg h6, if_neg h7, if_neg h8, if_pos h9]; try rfl) rfl
                  · skip
                    refine am_split (fun h10 => ?_) (fun h10 => ?_)
                    · skip
                      exact am_rv (S := sU_compute) (by unfold aU_compute_M; simp only [if_neg h1, if_neg h2, if_neg h3, if_neg h4, if_neg h5, if_neg h6, if_neg h7, if_neg h8, if_neg h9, if_pos h10]; try rfl) rfl
                    · skip
                      refine am_split (fun h11 => ?_) (fun h11 => ?_)
                      · skip
                        exact am_rv (S := sU_compute) (by unfold aU_compute_M; simp only [if_neg h1, if_neg h2, if_neg h3, if_neg h4, if_neg h5, if_neg h6, if_neg h7, if_neg h8, if_neg h9, if_neg h10, if_pos h11]; try rfl) rfl
                      · skip
                        refine am_split (fun h12 => ?_) (fun h12 => ?_)
                        · skip
                          exact am_rv (S := sU_compute) (by unfold aU_compute_M; simp only [if_neg h1, if_neg h2, if_neg h3, if_neg h4, if_neg h5, if_neg h6, if_neg h7, if_neg h8, if_neg h9, if_neg h10, if_neg h11, if_pos h12]; try rfl) rfl
                        · skip
                          refine am_split (fun h13 => ?_) (fun h13 => ?_)
                          · skip
                            exact am_rv (S := sU_compute) (by unfold aU_compute_M; simp only [if_neg h1, if_neg h2, if_neg h3, if_neg h4, if_neg h5, if_neg h6, if_neg h7, if_neg h8, if_neg h9, if_neg h10, if_neg h11, if_neg h12, if_pos h13]; try rfl) rfl
                          · skip
                            refine am_split (fun h14 => ?_) (fun h14 => ?_)
                            · skip
                              refine am_call (eU_get_M i a q tl) ?_
                              refine am_call (eU_set_M i a q ((rU_get_M i a q) + r) tl) ?_
                              exact am_rv (S := sU_compute) (by unfold aU_compute_M; simp only [if_neg h1, if_neg h2, if_neg h3, if_neg h4, if_neg h5, if_neg h6, if_neg h7, if_neg h8, if_neg h9, if_neg h10, if_neg h11, if_neg h12, if_neg h13, if_pos h14]; try rfl) rfl
                            · skip
                              refine am_split (fun h15 => ?_) (fun h15 => ?_)
                              · skip
                                refine am_call (eU_get_M i a r tl) ?_
                                refine am_call (eU_set_M i a q (rU_get_M i a r) tl) ?_
                                exact am_rv (S := sU_compute) (by unfold aU_compute_M; simp only [if_neg h1, if_neg h2, if_neg h3, if_neg h4, if_neg h5, if_neg h6, if_neg h7, if_neg h8, if_neg h9, if_neg h10, if_neg h11, if_neg h12, if_neg h13, if_neg h14, if_pos h15]; try rfl) rfl
                              · skip
                                exact am_rv (S := sU_compute) (by unfold aU_compute_M; simp only [if_neg h1, if_neg h2, if_neg h3, if_neg h4, if_neg h5, if_neg h6, if_neg h7, if_neg h8, if_neg h9, if_neg h10, if_neg h11, if_neg h12, if_neg h13, if_neg h14, if_neg h15]; try rfl) rfl
noncomputable def rU_moves_M (i : Nat → Int32) (a : Nat → Nat → Int32) (p q r s : Int32) : Int32 := if (((rU_get_M i a r) + s) - (4096 : Int32)) < (0 : Int32) then (0 : Int32) else if (64 : Int32) ≤ (((rU_get_M i a r) + s) - (4096 : Int32)) then (0 : Int32) else if ((((rU_get_M i a r) + s) - (4096 : Int32)) - (((rU_get_M i a r) + s) - (4096 : Int32)) / (4 : Int32) * (4 : Int32)) = (0 : Int32) then if p = (6 : Int32) then (1 : Int32) else (1 : Int32) else (0 : Int32)
noncomputable def aU_moves_M (i : Nat → Int32) (a : Nat → Nat → Int32) (p q r s : Int32) : Nat → Nat → Int32 := if (((rU_get_M i a r) + s) - (4096 : Int32)) < (0 : Int32) then a else if (64 : Int32) ≤ (((rU_get_M i a r) + s) - (4096 : Int32)) then a else if ((((rU_get_M i a r) + s) - (4096 : Int32)) - (((rU_get_M i a r) + s) - (4096 : Int32)) / (4 : Int32) * (4 : Int32)) = (0 : Int32) then if p = (6 : Int32) then (aU_set_M i a q ((a 16) (Int32.toNatClampNeg ((((rU_get_M i a r) + s) - (4096 : Int32)) / (4 : Int32))))) else (sA a (upd (a 16) (Int32.toNatClampNeg ((((rU_get_M i a r) + s) - (4096 : Int32)) / (4 : Int32))) (rU_get_M i a q)) 16) else a
set_option maxHeartbeats 4000000 in
set_option maxRecDepth 100000 in
theorem eU_moves_M (i : Nat → Int32) (a : Nat → Nat → Int32) (p q r s : Int32) (tl : List am_Cl) : am_Ev sU_moves [.ref 22, .int p, .int q, .int r, .int s] (wX i a tl) (some (.int (rU_moves_M i a p q r s))) (wX i (aU_moves_M i a p q r s) tl) := by
  refine am_Ev_of cwU_moves rfl rfl rfl (am_wp_T gdU_moves 400 ?_)
  refine am_call (eU_get_M i a r tl) ?_
  refine am_split (fun h1 => ?_) (fun h1 => ?_)
  · skip
    exact am_ri (S := sU_moves) (by unfold rU_moves_M; simp only [if_pos h1]; try rfl) (by unfold aU_moves_M; simp only [if_pos h1]; try rfl) rfl rfl
  · skip
    refine am_split (fun h2 => ?_) (fun h2 => ?_)
    · skip
      exact am_ri (S := sU_moves) (by unfold rU_moves_M; simp only [if_neg h1, if_pos h2]; try rfl) (by unfold aU_moves_M; simp only [if_neg h1, if_pos h2]; try rfl) rfl rfl
    · skip
      refine am_split (fun h3 => ?_) (fun h3 => ?_)
      · skip
        refine am_split (fun h4 => ?_) (fun h4 => ?_)
        · skip
          refine And.intro (by exact in_div (by assumption) (by assumption)) ?_
          refine am_call (eU_set_M i a q ((a 16) (Int32.toNatClampNeg ((((rU_get_M i a r) + s) - (4096 : Int32)) / (4 : Int32)))) tl) ?_
          exact am_ri (S := sU_moves) (by unfold rU_moves_M; simp only [if_neg h1, if_neg h2, if_pos h3, if_pos h4]; try rfl) (by unfold aU_moves_M; simp only [if_neg h1, if_neg h2, if_pos h3, if_pos h4]; try rfl) rfl rfl
        · skip
          refine am_call (eU_get_M i a q tl) ?_
          refine And.intro (by exact in_div (by assumption) (by assumption)) ?_
          exact am_ri (S := sU_moves) (by unfold rU_moves_M; simp only [if_neg h1, if_neg h2, if_pos h3, if_neg h4]; try rfl) (by unfold aU_moves_M; simp only [if_neg h1, if_neg h2, if_pos h3, if_neg h4]; try rfl) rfl rfl
      · skip
        exact am_ri (S := sU_moves) (by unfold rU_moves_M; simp only [if_neg h1, if_neg h2, if_neg h3]; try rfl) (by unfold aU_moves_M; simp only [if_neg h1, if_neg h2, if_neg h3]; try rfl) rfl rfl
theorem zoU_moves_M (i : Nat → Int32) (a : Nat → Nat → Int32) (p q r s : Int32) : rU_moves_M i a p q r s = 0 ∨ rU_moves_M i a p q r s = 1 := by
  unfold rU_moves_M
  repeat' (first | with_reducible refine zo_ite ?_ ?_ | with_reducible exact Or.inl rfl | with_reducible exact Or.inr rfl)
noncomputable def rU_get_T (i : Nat → Int32) (a : Nat → Nat → Int32) (p : Int32) : Int32 := if p < (0 : Int32) then (0 : Int32) else if (32 : Int32) ≤ p then (0 : Int32) else ((a 18) (Int32.toNatClampNeg p))
set_option maxHeartbeats 4000000 in
set_option maxRecDepth 100000 in
theorem eU_get_T (i : Nat → Int32) (a : Nat → Nat → Int32) (p : Int32) (tl : List am_Cl) : am_Ev sU_get [.ref 26, .int p] (wX i a tl) (some (.int (rU_get_T i a p))) (wX i a tl) := by
  refine am_Ev_of cwU_get rfl rfl rfl (am_wp_T gdU_get 400 ?_)
  refine am_split (fun h1 => ?_) (fun h1 => ?_)
  · skip
    exact am_ri (S := sU_get) (by unfold rU_get_T; simp only [if_pos h1]; try rfl) rfl rfl rfl
  · skip
    refine am_split (fun h2 => ?_) (fun h2 => ?_)
    · skip
      exact am_ri (S := sU_get) (by unfold rU_get_T; simp only [if_neg h1, if_pos h2]; try rfl) rfl rfl rfl
    · skip
      refine And.intro (by exact vp_of (M := 32) (by assumption) (by assumption) rfl) ?_
      exact am_ri (S := sU_get) (by unfold rU_get_T; simp only [if_neg h1, if_neg h2]; try rfl) rfl rfl rfl
noncomputable def aU_set_T (i : Nat → Int32) (a : Nat → Nat → Int32) (p q : Int32) : Nat → Nat → Int32 := if p ≤ (0 : Int32) then a else if (32 : Int32) ≤ p then a else (sA a (upd (a 18) (Int32.toNatClampNeg p) q) 18)
set_option maxHeartbeats 4000000 in
set_option maxRecDepth 100000 in
theorem eU_set_T (i : Nat → Int32) (a : Nat → Nat → Int32) (p q : Int32) (tl : List am_Cl) : am_Ev sU_set [.ref 26, .int p, .int q] (wX i a tl) none (wX i (aU_set_T i a p q) tl) := by
  refine am_Ev_of cwU_set rfl rfl rfl (am_wp_T gdU_set 400 ?_)
  refine am_split (fun h1 => ?_) (fun h1 => ?_)
  · skip
    exact am_rv (S := sU_set) (by unfold aU_set_T; simp only [if_pos h1]; try rfl) rfl
  · skip
    refine am_split (fun h2 => ?_) (fun h2 => ?_)
    · skip
      exact am_rv (S := sU_set) (by unfold aU_set_T; simp only [if_neg h1, if_pos h2]; try rfl) rfl
    · skip
      refine And.intro (by exact vp_ofp (M := 32) (by assumption) (by assumption) rfl) ?_
      exact am_rv (S := sU_set) (by unfold aU_set_T; simp only [if_neg h1, if_neg h2]; try rfl) rfl
noncomputable def rU_wordAt_T (i : Nat → Int32) (a : Nat → Nat → Int32) (p : Int32) : Int32 := if p < (0 : Int32) then (0 : Int32) else if (16 : Int32) ≤ p then (0 : Int32) else ((a 19) (Int32.toNatClampNeg p))
set_option maxHeartbeats 4000000 in
set_option maxRecDepth 100000 in
theorem eU_wordAt_T (i : Nat → Int32) (a : Nat → Nat → Int32) (p : Int32) (tl : List am_Cl) : am_Ev sU_wordAt [.ref 26, .int p] (wX i a tl) (some (.int (rU_wordAt_T i a p))) (wX i a tl) := by
  refine am_Ev_of cwU_wordAt rfl rfl rfl (am_wp_T gdU_wordAt 400 ?_)
  refine am_split (fun h1 => ?_) (fun h1 => ?_)
  · skip
    exact am_ri (S := sU_wordAt) (by unfold rU_wordAt_T; simp only [if_pos h1]; try rfl) rfl rfl rfl
  · skip
    refine am_split (fun h2 => ?_) (fun h2 => ?_)
    · skip
      exact am_ri (S := sU_wordAt) (by unfold rU_wordAt_T; simp only [if_neg h1, if_pos h2]; try rfl) rfl rfl rfl
    · skip
      refine And.intro (by exact vp_of (M := 16) (by assumption) (by assumption) rfl) ?_
      exact am_ri (S := sU_wordAt) (by unfold rU_wordAt_T; simp only [if_neg h1, if_neg h2]; try rfl) rfl rfl rfl
noncomputable def rU_outputAt_T (i : Nat → Int32) (a : Nat → Nat → Int32) (p : Int32) : Int32 := if p < (0 : Int32) then (0 : Int32) else if (i 13) ≤ p then (0 : Int32) else if (40 : Int32) ≤ p then (0 : Int32) else ((a 20) (Int32.toNatClampNeg p))
set_option maxHeartbeats 4000000 in
set_option maxRecDepth 100000 in
theorem eU_outputAt_T (i : Nat → Int32) (a : Nat → Nat → Int32) (p : Int32) (tl : List am_Cl) : am_Ev sU_outputAt [.ref 26, .int p] (wX i a tl) (some (.int (rU_outputAt_T i a p))) (wX i a tl) := by
  refine am_Ev_of cwU_outputAt rfl rfl rfl (am_wp_T gdU_outputAt 400 ?_)
  refine am_split (fun h1 => ?_) (fun h1 => ?_)
  · skip
    exact am_ri (S := sU_outputAt) (by unfold rU_outputAt_T; simp only [if_pos h1]; try rfl) rfl rfl rfl
  · skip
    refine am_split (fun h2 => ?_) (fun h2 => ?_)
    · skip
      exact am_ri (S := sU_outputAt) (by unfold rU_outputAt_T; simp only [if_neg h1, if_pos h2]; try rfl) rfl rfl rfl
    · skip
      refine am_split (fun h3 => ?_) (fun h3 => ?_)
      · skip
        exact am_ri (S := sU_outputAt) (by unfold rU_outputAt_T; simp only [if_neg h1, if_neg h2, if_pos h3]; try rfl) rfl rfl rfl
      · skip
        refine And.intro (by exact vp_of (M := 40) (by assumption) (by assumption) rfl) ?_
        exact am_ri (S := sU_outputAt) (by unfold rU_outputAt_T; simp only [if_neg h1, if_neg h2, if_neg h3]; try rfl) rfl rfl rfl
noncomputable def iU_readInput_T (i : Nat → Int32) (a : Nat → Nat → Int32) : Nat → Int32 := if (20 : Int32) ≤ (i 12) then i else (sI i ((i 12) + (1 : Int32)) 12)
noncomputable def aU_readInput_T (i : Nat → Int32) (a : Nat → Nat → Int32) : Nat → Nat → Int32 := if (20 : Int32) ≤ (i 12) then (aU_set_T i a (10 : Int32) (rI_valueAt i a (i 12))) else (aU_set_T i a (10 : Int32) (rI_valueAt i a (i 12)))
set_option maxHeartbeats 4000000 in
set_option maxRecDepth 100000 in
theorem eU_readInput_T (i : Nat → Int32) (a : Nat → Nat → Int32) (tl : List am_Cl) : am_Ev sU_readInput [.ref 26] (wX i a tl) none (wX (iU_readInput_T i a ) (aU_readInput_T i a ) tl) := by
  refine am_Ev_of cwU_readInput rfl rfl rfl (am_wp_T gdU_readInput 400 ?_)
  refine am_call (eI_valueAt i a (i 12) tl) ?_
  refine am_call (eU_set_T i a (10 : Int32) (rI_valueAt i a (i 12)) tl) ?_
  refine am_split (fun h1 => ?_) (fun h1 => ?_)
  · skip
    exact am_rv (S := sU_readInput) (by unfold iU_readInput_T aU_readInput_T; simp only [if_pos h1]; try rfl) rfl
  · skip
    exact am_rv (S := sU_readInput) (by unfold iU_readInput_T aU_readInput_T; simp only [if_neg h1]; try rfl) rfl
noncomputable def iU_writeOutput_T (i : Nat → Int32) (a : Nat → Nat → Int32) : Nat → Int32 := if (i 13) < (0 : Int32) then i else if (40 : Int32) ≤ (i 13) then i else (sI i ((i 13) + (1 : Int32)) 13)
noncomputable def aU_writeOutput_T (i : Nat → Int32) (a : Nat → Nat → Int32) : Nat → Nat → Int32 := if (i 13) < (0 : Int32) then a else if (40 : Int32) ≤ (i 13) then a else (sA a (upd (a 20) (Int32.toNatClampNeg (i 13)) (rU_get_T i a (10 : Int32))) 20)
set_option maxHeartbeats 4000000 in
set_option maxRecDepth 100000 in
theorem eU_writeOutput_T (i : Nat → Int32) (a : Nat → Nat → Int32) (tl : List am_Cl) : am_Ev sU_writeOutput [.ref 26] (wX i a tl) none (wX (iU_writeOutput_T i a ) (aU_writeOutput_T i a ) tl) := by
  refine am_Ev_of cwU_writeOutput rfl rfl rfl (am_wp_T gdU_writeOutput 400 ?_)
  refine am_split (fun h1 => ?_) (fun h1 => ?_)
  · skip
    exact am_rv (S := sU_writeOutput) (by unfold iU_writeOutput_T aU_writeOutput_T; simp only [if_pos h1]; try rfl) rfl
  · skip
    refine am_split (fun h2 => ?_) (fun h2 => ?_)
    · skip
      exact am_rv (S := sU_writeOutput) (by unfold iU_writeOutput_T aU_writeOutput_T; simp only [if_neg h1, if_pos h2]; try rfl) rfl
    · skip
      refine am_call (eU_get_T i a (10 : Int32) tl) ?_
      refine And.intro (by exact vp_of (M := 40) (by assumption) (by assumption) rfl) ?_
      exact am_rv (S := sU_writeOutput) (by unfold iU_writeOutput_T aU_writeOutput_T; simp only [if_neg h1, if_neg h2]; try rfl) rfl
noncomputable def rU_branches_T (i : Nat → Int32) (a : Nat → Nat → Int32) (p q r : Int32) : Int32 := if p = (8 : Int32) then if (rU_get_T i a q) = (rU_get_T i a r) then (1 : Int32) else (0 : Int32) else if p = (9 : Int32) then if (rU_get_T i a q) = (rU_get_T i a r) then (0 : Int32) else (1 : Int32) else if (rU_get_T i a r) ≤ (rU_get_T i a q) then (0 : Int32) else (1 : Int32)
set_option maxHeartbeats 4000000 in
set_option maxRecDepth 100000 in
theorem eU_branches_T (i : Nat → Int32) (a : Nat → Nat → Int32) (p q r : Int32) (tl : List am_Cl) : am_Ev sU_branches [.ref 26, .int p, .int q, .int r] (wX i a tl) (some (.int (rU_branches_T i a p q r))) (wX i a tl) := by
  refine am_Ev_of cwU_branches rfl rfl rfl (am_wp_T gdU_branches 400 ?_)
  refine am_split (fun h1 => ?_) (fun h1 => ?_)
  · skip
    refine am_call (eU_get_T i a q tl) ?_
    refine am_call (eU_get_T i a r tl) ?_
    refine am_split (fun h2 => ?_) (fun h2 => ?_)
    · skip
      exact am_ri (S := sU_branches) (by unfold rU_branches_T; simp only [if_pos h1, if_pos h2]; try rfl) rfl rfl rfl
    · skip
      exact am_ri (S := sU_branches) (by unfold rU_branches_T; simp only [if_pos h1, if_neg h2]; try rfl) rfl rfl rfl
  · skip
    refine am_split (fun h3 => ?_) (fun h3 => ?_)
    · skip
      refine am_call (eU_get_T i a q tl) ?_
      refine am_call (eU_get_T i a r tl) ?_
      refine am_split (fun h4 => ?_) (fun h4 => ?_)
      · skip
        exact am_ri (S := sU_branches) (by unfold rU_branches_T; simp only [if_neg h1, if_pos h3, if_pos h4]; try rfl) rfl rfl rfl
      · skip
        exact am_ri (S := sU_branches) (by unfold rU_branches_T; simp only [if_neg h1, if_pos h3, if_neg h4]; try rfl) rfl rfl rfl
    · skip
      refine am_call (eU_get_T i a q tl) ?_
      refine am_call (eU_get_T i a r tl) ?_
      refine am_split (fun h5 => ?_) (fun h5 => ?_)
      · skip
        exact am_ri (S := sU_branches) (by unfold rU_branches_T; simp only [if_neg h1, if_neg h3, if_pos h5]; try rfl) rfl rfl rfl
      · skip
        exact am_ri (S := sU_branches) (by unfold rU_branches_T; simp only [if_neg h1, if_neg h3, if_neg h5]; try rfl) rfl rfl rfl
theorem zoU_branches_T (i : Nat → Int32) (a : Nat → Nat → Int32) (p q r : Int32) : rU_branches_T i a p q r = 0 ∨ rU_branches_T i a p q r = 1 := by
  unfold rU_branches_T
  repeat' (first | with_reducible refine zo_ite ?_ ?_ | with_reducible exact Or.inl rfl | with_reducible exact Or.inr rfl)
noncomputable def aU_compute_T (i : Nat → Int32) (a : Nat → Nat → Int32) (p q r s : Int32) : Nat → Nat → Int32 := if p = (0 : Int32) then (aU_set_T i a q ((rU_get_T i a r) + (rU_get_T i a s))) else if p = (1 : Int32) then (aU_set_T i a q ((rU_get_T i a r) - (rU_get_T i a s))) else if p = (2 : Int32) then (aU_set_T i a q ((rU_get_T i a r) &&& (rU_get_T i a s))) else if p = (3 : Int32) then (aU_set_T i a q ((rU_get_T i a r) ||| (rU_get_T i a s))) else if p = (4 : Int32) then (aU_set_T i a q ((rU_get_T i a r) + s)) else if p = (5 : Int32) then (aU_set_T i a q (r <<< ((12 : Int32) &&& 31))) else if p = (6 : Int32) then a else if p = (7 : Int32) then a else if p = (8 : Int32) then a else if p = (9 : Int32) then a else if p = (10 : Int32) then a else if p = (11 : Int32) then a else if p = (12 : Int32) then a else if p = (13 : Int32) then (aU_set_T i a q ((rU_get_T i a q) + r)) else if p = (14 : Int32) then (aU_set_T i a q (rU_get_T i a r)) else a
set_option maxHeartbeats 4000000 in
set_option maxRecDepth 100000 in
theorem eU_compute_T (i : Nat → Int32) (a : Nat → Nat → Int32) (p q r s : Int32) (tl : List am_Cl) : am_Ev sU_compute [.ref 26, .int p, .int q, .int r, .int s] (wX i a tl) none (wX i (aU_compute_T i a p q r s) tl) := by
  refine am_Ev_of cwU_compute rfl rfl rfl (am_wp_T gdU_compute 400 ?_)
  refine am_split (fun h1 => ?_) (fun h1 => ?_)
  · skip
    refine am_call (eU_get_T i a r tl) ?_
    refine am_call (eU_get_T i a s tl) ?_
    refine am_call (eU_set_T i a q ((rU_get_T i a r) + (rU_get_T i a s)) tl) ?_
    exact am_rv (S := sU_compute) (by unfold aU_compute_T; simp only [if_pos h1]; try rfl) rfl
  · skip
    refine am_split (fun h2 => ?_) (fun h2 => ?_)
    · skip
      refine am_call (eU_get_T i a r tl) ?_
      refine am_call (eU_get_T i a s tl) ?_
      refine am_call (eU_set_T i a q ((rU_get_T i a r) - (rU_get_T i a s)) tl) ?_
      exact am_rv (S := sU_compute) (by unfold aU_compute_T; simp only [if_neg h1, if_pos h2]; try rfl) rfl
    · skip
      refine am_split (fun h3 => ?_) (fun h3 => ?_)
      · skip
        refine am_call (eU_get_T i a r tl) ?_
        refine am_call (eU_get_T i a s tl) ?_
        refine am_call (eU_set_T i a q ((rU_get_T i a r) &&& (rU_get_T i a s)) tl) ?_
        exact am_rv (S := sU_compute) (by unfold aU_compute_T; simp only [if_neg h1, if_neg h2, if_pos h3]; try rfl) rfl
      · skip
        refine am_split (fun h4 => ?_) (fun h4 => ?_)
        · skip
          refine am_call (eU_get_T i a r tl) ?_
          refine am_call (eU_get_T i a s tl) ?_
          refine am_call (eU_set_T i a q ((rU_get_T i a r) ||| (rU_get_T i a s)) tl) ?_
          exact am_rv (S := sU_compute) (by unfold aU_compute_T; simp only [if_neg h1, if_neg h2, if_neg h3, if_pos h4]; try rfl) rfl
        · skip
          refine am_split (fun h5 => ?_) (fun h5 => ?_)
          · skip
            refine am_call (eU_get_T i a r tl) ?_
            refine am_call (eU_set_T i a q ((rU_get_T i a r) + s) tl) ?_
            exact am_rv (S := sU_compute) (by unfold aU_compute_T; simp only [if_neg h1, if_neg h2, if_neg h3, if_neg h4, if_pos h5]; try rfl) rfl
          · skip
            refine am_split (fun h6 => ?_) (fun h6 => ?_)
            · skip
              refine am_call (eU_set_T i a q (r <<< ((12 : Int32) &&& 31)) tl) ?_
              exact am_rv (S := sU_compute) (by unfold aU_compute_T; simp only [if_neg h1, if_neg h2, if_neg h3, if_neg h4, if_neg h5, if_pos h6]; try rfl) rfl
            · skip
              refine am_split (fun h7 => ?_) (fun h7 => ?_)
              · skip
                exact am_rv (S := sU_compute) (by unfold aU_compute_T; simp only [if_neg h1, if_neg h2, if_neg h3, if_neg h4, if_neg h5, if_neg h6, if_pos h7]; try rfl) rfl
              · skip
                refine am_split (fun h8 => ?_) (fun h8 => ?_)
                · skip
                  exact am_rv (S := sU_compute) (by unfold aU_compute_T; simp only [if_neg h1, if_neg h2, if_neg h3, if_neg h4, if_neg h5, if_neg h6, if_neg h7, if_pos h8]; try rfl) rfl
                · skip
                  refine am_split (fun h9 => ?_) (fun h9 => ?_)
                  · skip
                    exact am_rv (S := sU_compute) (by unfold aU_compute_T; simp only [if_neg h1, if_neg h2, if_neg h3, if_neg h4, if_neg h5, if_neg h6, if_neg h7, if_neg h8, if_pos h9]; try rfl) rfl
                  · skip
                    refine am_split (fun h10 => ?_) (fun h10 => ?_)
                    · skip
                      exact am_rv (S := sU_compute) (by unfold aU_compute_T; simp only [if_neg h1, if_neg h2, if_neg h3, if_neg h4, if_neg h5, if_neg h6, if_neg h7, if_neg h8, if_neg h9, if_pos h10]; try rfl) rfl
                    · skip
                      refine am_split (fun h11 => ?_) (fun h11 => ?_)
                      · skip
                        exact am_rv (S := sU_compute) (by unfold aU_compute_T; simp only [if_neg h1, if_neg h2, if_neg h3, if_neg h4, if_neg h5, if_neg h6, if_neg h7, if_neg h8, if_neg h9, if_neg h10, if_pos h11]; try rfl) rfl
                      · skip
                        refine am_split (fun h12 => ?_) (fun h12 => ?_)
                        · skip
                          exact am_rv (S := sU_compute) (by unfold aU_compute_T; simp only [if_neg h1, if_neg h2, if_neg h3, if_neg h4, if_neg h5, if_neg h6, if_neg h7, if_neg h8, if_neg h9, if_neg h10, if_neg h11, if_pos h12]; try rfl) rfl
                        · skip
                          refine am_split (fun h13 => ?_) (fun h13 => ?_)
                          · skip
                            exact am_rv (S := sU_compute) (by unfold aU_compute_T; simp only [if_neg h1, if_neg h2, if_neg h3, if_neg h4, if_neg h5, if_neg h6, if_neg h7, if_neg h8, if_neg h9, if_neg h10, if_neg h11, if_neg h12, if_pos h13]; try rfl) rfl
                          · skip
                            refine am_split (fun h14 => ?_) (fun h14 => ?_)
                            · skip
                              refine am_call (eU_get_T i a q tl) ?_
                              refine am_call (eU_set_T i a q ((rU_get_T i a q) + r) tl) ?_
                              exact am_rv (S := sU_compute) (by unfold aU_compute_T; simp only [if_neg h1, if_neg h2, if_neg h3, if_neg h4, if_neg h5, if_neg h6, if_neg h7, if_neg h8, if_neg h9, if_neg h10, if_neg h11, if_neg h12, if_neg h13, if_pos h14]; try rfl) rfl
                            · skip
                              refine am_split (fun h15 => ?_) (fun h15 => ?_)
                              · skip
                                refine am_call (eU_get_T i a r tl) ?_
                                refine am_call (eU_set_T i a q (rU_get_T i a r) tl) ?_
                                exact am_rv (S := sU_compute) (by unfold aU_compute_T; simp only [if_neg h1, if_neg h2, if_neg h3, if_neg h4, if_neg h5, if_neg h6, if_neg h7, if_neg h8, if_neg h9, if_neg h10, if_neg h11, if_neg h12, if_neg h13, if_neg h14, if_pos h15]; try rfl) rfl
                              · skip
                                exact am_rv (S := sU_compute) (by unfold aU_compute_T; simp only [if_neg h1, if_neg h2, if_neg h3, if_neg h4, if_neg h5, if_neg h6, if_neg h7, if_neg h8, if_neg h9, if_neg h10, if_neg h11, if_neg h12, if_neg h13, if_neg h14, if_neg h15]; try rfl) rfl
noncomputable def rU_moves_T (i : Nat → Int32) (a : Nat → Nat → Int32) (p q r s : Int32) : Int32 := if (((rU_get_T i a r) + s) - (4096 : Int32)) < (0 : Int32) then (0 : Int32) else if (64 : Int32) ≤ (((rU_get_T i a r) + s) - (4096 : Int32)) then (0 : Int32) else if ((((rU_get_T i a r) + s) - (4096 : Int32)) - (((rU_get_T i a r) + s) - (4096 : Int32)) / (4 : Int32) * (4 : Int32)) = (0 : Int32) then if p = (6 : Int32) then (1 : Int32) else (1 : Int32) else (0 : Int32)
noncomputable def aU_moves_T (i : Nat → Int32) (a : Nat → Nat → Int32) (p q r s : Int32) : Nat → Nat → Int32 := if (((rU_get_T i a r) + s) - (4096 : Int32)) < (0 : Int32) then a else if (64 : Int32) ≤ (((rU_get_T i a r) + s) - (4096 : Int32)) then a else if ((((rU_get_T i a r) + s) - (4096 : Int32)) - (((rU_get_T i a r) + s) - (4096 : Int32)) / (4 : Int32) * (4 : Int32)) = (0 : Int32) then if p = (6 : Int32) then (aU_set_T i a q ((a 19) (Int32.toNatClampNeg ((((rU_get_T i a r) + s) - (4096 : Int32)) / (4 : Int32))))) else (sA a (upd (a 19) (Int32.toNatClampNeg ((((rU_get_T i a r) + s) - (4096 : Int32)) / (4 : Int32))) (rU_get_T i a q)) 19) else a
set_option maxHeartbeats 4000000 in
set_option maxRecDepth 100000 in
theorem eU_moves_T (i : Nat → Int32) (a : Nat → Nat → Int32) (p q r s : Int32) (tl : List am_Cl) : am_Ev sU_moves [.ref 26, .int p, .int q, .int r, .int s] (wX i a tl) (some (.int (rU_moves_T i a p q r s))) (wX i (aU_moves_T i a p q r s) tl) := by
  refine am_Ev_of cwU_moves rfl rfl rfl (am_wp_T gdU_moves 400 ?_)
  refine am_call (eU_get_T i a r tl) ?_
  refine am_split (fun h1 => ?_) (fun h1 => ?_)
  · skip
    exact am_ri (S := sU_moves) (by unfold rU_moves_T; simp only [if_pos h1]; try rfl) (by unfold aU_moves_T; simp only [if_pos h1]; try rfl) rfl rfl
  · skip
    refine am_split (fun h2 => ?_) (fun h2 => ?_)
    · skip
      exact am_ri (S := sU_moves) (by unfold rU_moves_T; simp only [if_neg h1, if_pos h2]; try rfl) (by unfold aU_moves_T; simp only [if_neg h1, if_pos h2]; try rfl) rfl rfl
    · skip
      refine am_split (fun h3 => ?_) (fun h3 => ?_)
      · skip
        refine am_split (fun h4 => ?_) (fun h4 => ?_)
        · skip
          refine And.intro (by exact in_div (by assumption) (by assumption)) ?_
          refine am_call (eU_set_T i a q ((a 19) (Int32.toNatClampNeg ((((rU_get_T i a r) + s) - (4096 : Int32)) / (4 : Int32)))) tl) ?_
          exact am_ri (S := sU_moves) (by unfold rU_moves_T; simp only [if_neg h1, if_neg h2, if_pos h3, if_pos h4]; try rfl) (by unfold aU_moves_T; simp only [if_neg h1, if_neg h2, if_pos h3, if_pos h4]; try rfl) rfl rfl
        · skip
          refine am_call (eU_get_T i a q tl) ?_
          refine And.intro (by exact in_div (by assumption) (by assumption)) ?_
          exact am_ri (S := sU_moves) (by unfold rU_moves_T; simp only [if_neg h1, if_neg h2, if_pos h3, if_neg h4]; try rfl) (by unfold aU_moves_T; simp only [if_neg h1, if_neg h2, if_pos h3, if_neg h4]; try rfl) rfl rfl
      · skip
        exact am_ri (S := sU_moves) (by unfold rU_moves_T; simp only [if_neg h1, if_neg h2, if_neg h3]; try rfl) (by unfold aU_moves_T; simp only [if_neg h1, if_neg h2, if_neg h3]; try rfl) rfl rfl
theorem zoU_moves_T (i : Nat → Int32) (a : Nat → Nat → Int32) (p q r s : Int32) : rU_moves_T i a p q r s = 0 ∨ rU_moves_T i a p q r s = 1 := by
  unfold rU_moves_T
  repeat' (first | with_reducible refine zo_ite ?_ ?_ | with_reducible exact Or.inl rfl | with_reducible exact Or.inr rfl)

/-! walks by program: the reference's machine -/
theorem inR_lt {x : Int32} (h0 : 0 ≤ x.toInt) (h : ¬ (32 : Int32) ≤ x) : inR x := ⟨h0, by have := nle h; rw [show (32 : Int32).toInt = 32 from rfl] at this; exact this⟩
theorem in_ww0 {x : Int32} (h0 : 0 ≤ x.toInt) (h : ¬ (16 : Int32) ≤ x) : vp_in (((16 : Int32) * (0 : Int32)) + x) 32 := by
  have h1 := nle h
  rw [show (16 : Int32).toInt = 16 from rfl] at h1
  have e2 : ((16 : Int32) * (0 : Int32)).toInt = 0 := rfl
  exact in_off (by omega) (by omega) (by omega) (by decide)
theorem in_ww1 {x : Int32} (h0 : 0 ≤ x.toInt) (h : ¬ (16 : Int32) ≤ x) : vp_in (((16 : Int32) * (1 : Int32)) + x) 32 := by
  have h1 := nle h
  rw [show (16 : Int32).toInt = 16 from rfl] at h1
  have e2 : ((16 : Int32) * (1 : Int32)).toInt = 16 := rfl
  exact in_off (by omega) (by omega) (by omega) (by decide)
theorem and31 (x : Int32) : inR (x &&& 31) := by
  have h := pk_andIn x (m := 31) 5 rfl (by decide)
  rw [vp_in_iff] at h
  exact ⟨h.1, h.2⟩
theorem rA (k w : Int32) : inR (rZ_fieldA k w) := by
  unfold rZ_fieldA
  repeat' split
  all_goals exact and31 _
theorem rB {k w : Int32} (h5 : ¬ k = 5) (h11 : ¬ k = 11) (h13 : ¬ k = 13) : inR (rZ_fieldB k w) := by
  unfold rZ_fieldB
  rw [if_neg h5]
  simp only [if_neg h11, if_neg h13]
  repeat' split
  all_goals exact and31 _
theorem rC {k w : Int32} (h : k < 4) : inR (rZ_fieldC k w) := by
  unfold rZ_fieldC
  split
  · rename_i h2; exact absurd h (Int32.not_lt.mpr h2)
  · exact and31 _
noncomputable def iZ_anew0_2 : Nat → (Nat → Int32) → (Nat → Nat → Int32) → Int32 → Nat → Int32
  | 0, j, _, _ => j
  | f + 1, j, c, n => if (16 : Int32) ≤ n then (sI j (0 : Int32) 6) else (iZ_anew0_2 f j (sA c (upd (c 15) (Int32.toNatClampNeg (((16 : Int32) * (0 : Int32)) + n)) (0 : Int32)) 15) (n + (1 : Int32)))
noncomputable def aZ_anew0_2 : Nat → (Nat → Int32) → (Nat → Nat → Int32) → Int32 → Nat → Nat → Int32
  | 0, _, c, _ => c
  | f + 1, j, c, n => if (16 : Int32) ≤ n then (sA (sA (sA c (upd (c 17) (Int32.toNatClampNeg (0 : Int32)) (0 : Int32)) 17) (upd (c 18) (Int32.toNatClampNeg (0 : Int32)) (0 : Int32)) 18) (upd (c 20) (Int32.toNatClampNeg (0 : Int32)) (vp_nar .boolean (1 : Int32))) 20) else (aZ_anew0_2 f j (sA c (upd (c 15) (Int32.toNatClampNeg (((16 : Int32) * (0 : Int32)) + n)) (0 : Int32)) 15) (n + (1 : Int32)))
set_option maxHeartbeats 4000000 in
set_option maxRecDepth 100000 in
theorem tZ_anew0_2 (i : Nat → Int32) (a : Nat → Nat → Int32) : ∀ (f : Nat) (j : Nat → Int32) (c : Nat → Nat → Int32) (n : Int32), ((16 : Int32).toInt - Int32.toInt n).toNat < f → 0 ≤ n.toInt → am_T sZ_anew none (wX i a (wZ (iZ_anew0_2 f j c n) (aZ_anew0_2 f j c n))) 28 [.ref 30, .int (0 : Int32), .int n] [] (wX i a (wZ j c)) 0 0 := by
  intro f
  induction f with
  | zero => intro j c n hm; exact absurd hm (Nat.not_lt_zero _)
  | succ f ih =>
    intro j c n hm hk
    refine am_wu_T gdZ_anew [28] 400 ?_
    refine am_split (fun h1 => ?_) (fun h1 => ?_)
    · skip
      refine And.intro (by exact vp_lit rfl) ?_
      refine And.intro (by exact vp_lit rfl) ?_
      refine And.intro (by exact vp_lit rfl) ?_
      exact am_rv (S := sZ_anew) (by simp only [iZ_anew0_2, aZ_anew0_2, if_pos h1]; try rfl) rfl
    · skip
      refine And.intro (by exact in_ww0 hk (by assumption)) ?_
      exact am_Tc (am_Tw (ih j (sA c (upd (c 15) (Int32.toNatClampNeg (((16 : Int32) * (0 : Int32)) + n)) (0 : Int32)) 15) (n + (1 : Int32)) (ms_up (M := 16) (by assumption) hm) (nn_up (M := 16) hk (by assumption))) ⟨Or.inr rfl, Or.inr rfl, Or.inr rfl, trivial⟩) rfl (by simp only [iZ_anew0_2, aZ_anew0_2, if_neg h1])
noncomputable def iZ_anew0_1 : Nat → (Nat → Int32) → (Nat → Nat → Int32) → Int32 → Nat → Int32
  | 0, j, _, _ => j
  | f + 1, j, c, n => if (32 : Int32) ≤ n then (iZ_anew0_2 (((16 : Int32).toInt - Int32.toInt (0 : Int32)).toNat + 1) j c (0 : Int32)) else (iZ_anew0_1 f j (sA c (upd (c 14) (Int32.toNatClampNeg (((32 : Int32) * (0 : Int32)) + n)) (0 : Int32)) 14) (n + (1 : Int32)))
noncomputable def aZ_anew0_1 : Nat → (Nat → Int32) → (Nat → Nat → Int32) → Int32 → Nat → Nat → Int32
  | 0, _, c, _ => c
  | f + 1, j, c, n => if (32 : Int32) ≤ n then (aZ_anew0_2 (((16 : Int32).toInt - Int32.toInt (0 : Int32)).toNat + 1) j c (0 : Int32)) else (aZ_anew0_1 f j (sA c (upd (c 14) (Int32.toNatClampNeg (((32 : Int32) * (0 : Int32)) + n)) (0 : Int32)) 14) (n + (1 : Int32)))
set_option maxHeartbeats 4000000 in
set_option maxRecDepth 100000 in
theorem tZ_anew0_1 (i : Nat → Int32) (a : Nat → Nat → Int32) : ∀ (f : Nat) (j : Nat → Int32) (c : Nat → Nat → Int32) (n : Int32), ((32 : Int32).toInt - Int32.toInt n).toNat < f → 0 ≤ n.toInt → am_T sZ_anew none (wX i a (wZ (iZ_anew0_1 f j c n) (aZ_anew0_1 f j c n))) 2 [.ref 30, .int (0 : Int32), .int n] [] (wX i a (wZ j c)) 0 0 := by
  intro f
  induction f with
  | zero => intro j c n hm; exact absurd hm (Nat.not_lt_zero _)
  | succ f ih =>
    intro j c n hm hk
    refine am_wu_T gdZ_anew [2, 28] 400 ?_
    refine am_split (fun h1 => ?_) (fun h1 => ?_)
    · skip
      exact am_Tc (am_Tw (tZ_anew0_2 i a (((16 : Int32).toInt - Int32.toInt (0 : Int32)).toNat + 1) j c (0 : Int32) (Nat.lt_add_one _) (by decide)) ⟨Or.inr rfl, Or.inr rfl, Or.inr rfl, trivial⟩) rfl (by unfold iZ_anew0_1 aZ_anew0_1; simp only [if_pos h1]; try rfl)
    · skip
      refine And.intro (by exact in_rg0 (inR_lt hk (by assumption))) ?_
      exact am_Tc (am_Tw (ih j (sA c (upd (c 14) (Int32.toNatClampNeg (((32 : Int32) * (0 : Int32)) + n)) (0 : Int32)) 14) (n + (1 : Int32)) (ms_up (M := 32) (by assumption) hm) (nn_up (M := 32) hk (by assumption))) ⟨Or.inr rfl, Or.inr rfl, Or.inr rfl, trivial⟩) rfl (by simp only [iZ_anew0_1, aZ_anew0_1, if_neg h1])
noncomputable def iZ_anew0 (j : Nat → Int32) (c : Nat → Nat → Int32) : Nat → Int32 := (iZ_anew0_1 (((32 : Int32).toInt - Int32.toInt (0 : Int32)).toNat + 1) j c (0 : Int32))
noncomputable def aZ_anew0 (j : Nat → Int32) (c : Nat → Nat → Int32) : Nat → Nat → Int32 := (aZ_anew0_1 (((32 : Int32).toInt - Int32.toInt (0 : Int32)).toNat + 1) j c (0 : Int32))
set_option maxHeartbeats 4000000 in
set_option maxRecDepth 100000 in
theorem eZ_anew0 (j : Nat → Int32) (c : Nat → Nat → Int32) (i : Nat → Int32) (a : Nat → Nat → Int32) : am_Ev sZ_anew [.ref 30, .int (0 : Int32)] (wX i a (wZ j c)) none (wX i a (wZ (iZ_anew0 j c ) (aZ_anew0 j c ))) := by
  refine am_Ev_of cwZ_anew rfl rfl rfl (am_wt_T gdZ_anew [2] 400 ?_)
  exact am_Tc (am_Tw (tZ_anew0_1 i a (((32 : Int32).toInt - Int32.toInt (0 : Int32)).toNat + 1) j c (0 : Int32) (Nat.lt_add_one _) (by decide)) ⟨Or.inr rfl, Or.inr rfl, Or.inr rfl, trivial⟩) rfl (by unfold iZ_anew0 aZ_anew0; rfl)
noncomputable def iZ_anew1_2 : Nat → (Nat → Int32) → (Nat → Nat → Int32) → Int32 → Nat → Int32
  | 0, j, _, _ => j
  | f + 1, j, c, n => if (16 : Int32) ≤ n then (sI j (0 : Int32) 6) else (iZ_anew1_2 f j (sA c (upd (c 15) (Int32.toNatClampNeg (((16 : Int32) * (1 : Int32)) + n)) (0 : Int32)) 15) (n + (1 : Int32)))
noncomputable def aZ_anew1_2 : Nat → (Nat → Int32) → (Nat → Nat → Int32) → Int32 → Nat → Nat → Int32
  | 0, _, c, _ => c
  | f + 1, j, c, n => if (16 : Int32) ≤ n then (sA (sA (sA c (upd (c 17) (Int32.toNatClampNeg (1 : Int32)) (0 : Int32)) 17) (upd (c 18) (Int32.toNatClampNeg (1 : Int32)) (0 : Int32)) 18) (upd (c 20) (Int32.toNatClampNeg (1 : Int32)) (vp_nar .boolean (1 : Int32))) 20) else (aZ_anew1_2 f j (sA c (upd (c 15) (Int32.toNatClampNeg (((16 : Int32) * (1 : Int32)) + n)) (0 : Int32)) 15) (n + (1 : Int32)))
set_option maxHeartbeats 4000000 in
set_option maxRecDepth 100000 in
theorem tZ_anew1_2 (i : Nat → Int32) (a : Nat → Nat → Int32) : ∀ (f : Nat) (j : Nat → Int32) (c : Nat → Nat → Int32) (n : Int32), ((16 : Int32).toInt - Int32.toInt n).toNat < f → 0 ≤ n.toInt → am_T sZ_anew none (wX i a (wZ (iZ_anew1_2 f j c n) (aZ_anew1_2 f j c n))) 28 [.ref 30, .int (1 : Int32), .int n] [] (wX i a (wZ j c)) 0 0 := by
  intro f
  induction f with
  | zero => intro j c n hm; exact absurd hm (Nat.not_lt_zero _)
  | succ f ih =>
    intro j c n hm hk
    refine am_wu_T gdZ_anew [28] 400 ?_
    refine am_split (fun h1 => ?_) (fun h1 => ?_)
    · skip
      refine And.intro (by exact vp_lit rfl) ?_
      refine And.intro (by exact vp_lit rfl) ?_
      refine And.intro (by exact vp_lit rfl) ?_
      exact am_rv (S := sZ_anew) (by simp only [iZ_anew1_2, aZ_anew1_2, if_pos h1]; try rfl) rfl
    · skip
      refine And.intro (by exact in_ww1 hk (by assumption)) ?_
      exact am_Tc (am_Tw (ih j (sA c (upd (c 15) (Int32.toNatClampNeg (((16 : Int32) * (1 : Int32)) + n)) (0 : Int32)) 15) (n + (1 : Int32)) (ms_up (M := 16) (by assumption) hm) (nn_up (M := 16) hk (by assumption))) ⟨Or.inr rfl, Or.inr rfl, Or.inr rfl, trivial⟩) rfl (by simp only [iZ_anew1_2, aZ_anew1_2, if_neg h1])
noncomputable def iZ_anew1_1 : Nat → (Nat → Int32) → (Nat → Nat → Int32) → Int32 → Nat → Int32
  | 0, j, _, _ => j
  | f + 1, j, c, n => if (32 : Int32) ≤ n then (iZ_anew1_2 (((16 : Int32).toInt - Int32.toInt (0 : Int32)).toNat + 1) j c (0 : Int32)) else (iZ_anew1_1 f j (sA c (upd (c 14) (Int32.toNatClampNeg (((32 : Int32) * (1 : Int32)) + n)) (0 : Int32)) 14) (n + (1 : Int32)))
noncomputable def aZ_anew1_1 : Nat → (Nat → Int32) → (Nat → Nat → Int32) → Int32 → Nat → Nat → Int32
  | 0, _, c, _ => c
  | f + 1, j, c, n => if (32 : Int32) ≤ n then (aZ_anew1_2 (((16 : Int32).toInt - Int32.toInt (0 : Int32)).toNat + 1) j c (0 : Int32)) else (aZ_anew1_1 f j (sA c (upd (c 14) (Int32.toNatClampNeg (((32 : Int32) * (1 : Int32)) + n)) (0 : Int32)) 14) (n + (1 : Int32)))
set_option maxHeartbeats 4000000 in
set_option maxRecDepth 100000 in
theorem tZ_anew1_1 (i : Nat → Int32) (a : Nat → Nat → Int32) : ∀ (f : Nat) (j : Nat → Int32) (c : Nat → Nat → Int32) (n : Int32), ((32 : Int32).toInt - Int32.toInt n).toNat < f → 0 ≤ n.toInt → am_T sZ_anew none (wX i a (wZ (iZ_anew1_1 f j c n) (aZ_anew1_1 f j c n))) 2 [.ref 30, .int (1 : Int32), .int n] [] (wX i a (wZ j c)) 0 0 := by
  intro f
  induction f with
  | zero => intro j c n hm; exact absurd hm (Nat.not_lt_zero _)
  | succ f ih =>
    intro j c n hm hk
    refine am_wu_T gdZ_anew [2, 28] 400 ?_
    refine am_split (fun h1 => ?_) (fun h1 => ?_)
    · skip
      exact am_Tc (am_Tw (tZ_anew1_2 i a (((16 : Int32).toInt - Int32.toInt (0 : Int32)).toNat + 1) j c (0 : Int32) (Nat.lt_add_one _) (by decide)) ⟨Or.inr rfl, Or.inr rfl, Or.inr rfl, trivial⟩) rfl (by unfold iZ_anew1_1 aZ_anew1_1; simp only [if_pos h1]; try rfl)
    · skip
      refine And.intro (by exact in_rg1 (inR_lt hk (by assumption))) ?_
      exact am_Tc (am_Tw (ih j (sA c (upd (c 14) (Int32.toNatClampNeg (((32 : Int32) * (1 : Int32)) + n)) (0 : Int32)) 14) (n + (1 : Int32)) (ms_up (M := 32) (by assumption) hm) (nn_up (M := 32) hk (by assumption))) ⟨Or.inr rfl, Or.inr rfl, Or.inr rfl, trivial⟩) rfl (by simp only [iZ_anew1_1, aZ_anew1_1, if_neg h1])
noncomputable def iZ_anew1 (j : Nat → Int32) (c : Nat → Nat → Int32) : Nat → Int32 := (iZ_anew1_1 (((32 : Int32).toInt - Int32.toInt (0 : Int32)).toNat + 1) j c (0 : Int32))
noncomputable def aZ_anew1 (j : Nat → Int32) (c : Nat → Nat → Int32) : Nat → Nat → Int32 := (aZ_anew1_1 (((32 : Int32).toInt - Int32.toInt (0 : Int32)).toNat + 1) j c (0 : Int32))
set_option maxHeartbeats 4000000 in
set_option maxRecDepth 100000 in
theorem eZ_anew1 (j : Nat → Int32) (c : Nat → Nat → Int32) (i : Nat → Int32) (a : Nat → Nat → Int32) : am_Ev sZ_anew [.ref 30, .int (1 : Int32)] (wX i a (wZ j c)) none (wX i a (wZ (iZ_anew1 j c ) (aZ_anew1 j c ))) := by
  refine am_Ev_of cwZ_anew rfl rfl rfl (am_wt_T gdZ_anew [2] 400 ?_)
  exact am_Tc (am_Tw (tZ_anew1_1 i a (((32 : Int32).toInt - Int32.toInt (0 : Int32)).toNat + 1) j c (0 : Int32) (Nat.lt_add_one _) (by decide)) ⟨Or.inr rfl, Or.inr rfl, Or.inr rfl, trivial⟩) rfl (by unfold iZ_anew1 aZ_anew1; rfl)
noncomputable def rZ_lineAt_l : Nat → (Nat → Int32) → (Nat → Nat → Int32) → Int32 → Int32 → Int32
  | 0, _, _, _, _ => 0
  | f + 1, j, c, t, n => if (j 1) < n then (-1 : Int32) else if (t - t / (16 : Int32) * (16 : Int32)) = (0 : Int32) then if (j 2) = (0 : Int32) then (rZ_lineAt_l f j c t (n + (1 : Int32))) else if ((c 8) (Int32.toNatClampNeg n)) = t then n else (rZ_lineAt_l f j c t (n + (1 : Int32))) else (-1 : Int32)
set_option maxHeartbeats 4000000 in
set_option maxRecDepth 100000 in
theorem tZ_lineAt_l (i : Nat → Int32) (a : Nat → Nat → Int32) : ∀ (f : Nat) (j : Nat → Int32) (c : Nat → Nat → Int32) (t n : Int32), (Int32.toInt (j 1) + 1 - Int32.toInt n).toNat < f → 0 ≤ n.toInt ∧ (j 1).toInt ≤ 20 → am_T sZ_lineAt (some (.int (rZ_lineAt_l f j c t n))) (wX i a (wZ j c)) 2 [.ref 30, .int t, .int n] [] (wX i a (wZ j c)) 0 0 := by
  intro f
  induction f with
  | zero => intro j c t n hm; exact absurd hm (Nat.not_lt_zero _)
  | succ f ih =>
    intro j c t n hm hp
    refine am_wu_T gdZ_lineAt [2] 400 ?_
    refine am_split (fun h1 => ?_) (fun h1 => ?_)
    · skip
      exact am_ri (S := sZ_lineAt) (by simp only [rZ_lineAt_l, if_pos h1]; try rfl) rfl rfl rfl
    · skip
      refine am_split (fun h2 => ?_) (fun h2 => ?_)
      · skip
        refine am_split (fun h3 => ?_) (fun h3 => ?_)
        · skip
          exact am_Tc (am_Tw (ih j c t (n + (1 : Int32)) (ms_ule (by assumption) (by omega) hm) ⟨by have h0 := hp.1; have h8 := nlt (y := n) (by assumption); rw [one_i (by omega)]; omega, hp.2⟩) ⟨Or.inr rfl, Or.inr rfl, Or.inr rfl, trivial⟩) (by simp only [rZ_lineAt_l, if_neg h1, if_pos h2, if_pos h3]) rfl
        · skip
          refine And.intro (by (have h8 := nlt (y := n) (by assumption); rw [vp_in_iff]; omega)) ?_
          refine am_split (fun h4 => ?_) (fun h4 => ?_)
          · skip
            exact am_ri (S := sZ_lineAt) (by simp only [rZ_lineAt_l, if_neg h1, if_pos h2, if_neg h3, if_pos h4]; try rfl) rfl rfl rfl
          · skip
            exact am_Tc (am_Tw (ih j c t (n + (1 : Int32)) (ms_ule (by assumption) (by omega) hm) ⟨by have h0 := hp.1; have h8 := nlt (y := n) (by assumption); rw [one_i (by omega)]; omega, hp.2⟩) ⟨Or.inr rfl, Or.inr rfl, Or.inr rfl, trivial⟩) (by simp only [rZ_lineAt_l, if_neg h1, if_pos h2, if_neg h3, if_neg h4]) rfl
      · skip
        exact am_ri (S := sZ_lineAt) (by simp only [rZ_lineAt_l, if_neg h1, if_neg h2]; try rfl) rfl rfl rfl
noncomputable def rZ_lineAt (j : Nat → Int32) (c : Nat → Nat → Int32) (p : Int32) : Int32 := (rZ_lineAt_l ((Int32.toInt (j 1) + 1 - Int32.toInt (0 : Int32)).toNat + 1) j c p (0 : Int32))
set_option maxHeartbeats 4000000 in
set_option maxRecDepth 100000 in
theorem eZ_lineAt (j : Nat → Int32) (c : Nat → Nat → Int32) (p : Int32) (i : Nat → Int32) (a : Nat → Nat → Int32) (hl : (j 1).toInt ≤ 20) : am_Ev sZ_lineAt [.ref 30, .int p] (wX i a (wZ j c)) (some (.int (rZ_lineAt j c p))) (wX i a (wZ j c)) := by
  refine am_Ev_of cwZ_lineAt rfl rfl rfl (am_wt_T gdZ_lineAt [2] 400 ?_)
  exact am_Tc (am_Tw (tZ_lineAt_l i a ((Int32.toInt (j 1) + 1 - Int32.toInt (0 : Int32)).toNat + 1) j c p (0 : Int32) (Nat.lt_add_one _) ⟨by decide, hl⟩) ⟨Or.inr rfl, Or.inr rfl, Or.inr rfl, trivial⟩) (by unfold rZ_lineAt; rfl) rfl

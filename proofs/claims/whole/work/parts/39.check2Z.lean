/-! walks by program: the reference's check, its loops -/
theorem bO (w : Int32) : rZ_bytesOf w = 2 ∨ rZ_bytesOf w = 4 := by
  unfold rZ_bytesOf
  split
  · exact Or.inl rfl
  · exact Or.inr rfl
theorem bO_i {p s w : Int32} (h : ¬ s ≤ p) (hs : s.toInt ≤ 256) (h0 : 0 ≤ p.toInt) : p.toInt + 2 ≤ (p + rZ_bytesOf w).toInt := by
  have h1 := nle h
  rcases bO w with e | e
  · rw [e, add_i (by rw [show (2 : Int32).toInt = 2 from rfl]; omega) (by rw [show (2 : Int32).toInt = 2 from rfl]; omega), show (2 : Int32).toInt = 2 from rfl]
    omega
  · rw [e, add_i (by rw [show (4 : Int32).toInt = 4 from rfl]; omega) (by rw [show (4 : Int32).toInt = 4 from rfl]; omega), show (4 : Int32).toInt = 4 from rfl]
    omega
theorem ms_b {p s w : Int32} {f : Nat} (h : ¬ s ≤ p) (hs : s.toInt ≤ 256) (h0 : 0 ≤ p.toInt) (hm : (s.toInt - p.toInt).toNat < f + 1) : (s.toInt - (p + rZ_bytesOf w).toInt).toNat < f := by
  have h1 := nle h
  have h2 := bO_i (w := w) h hs h0
  omega
theorem nn_b {p s w : Int32} (h : ¬ s ≤ p) (hs : s.toInt ≤ 256) (h0 : 0 ≤ p.toInt) : 0 ≤ (p + rZ_bytesOf w).toInt := by
  have h2 := bO_i (w := w) h hs h0
  omega
theorem le256 {p s : Int32} (h : ¬ s ≤ p) (hs : s.toInt ≤ 256) : p.toInt ≤ 256 := by have := nle h; omega
noncomputable def rZ_check_3 : Nat → (Nat → Int32) → (Nat → Nat → Int32) → Int32 → Int32
  | 0, _, _, _ => 0
  | f + 1, j, c, n => if (j 3) ≤ n then (-1 : Int32) else if ((c 12) (Int32.toNatClampNeg n)) = (0 : Int32) then (rZ_check_3 f j c (n + (1 : Int32))) else if (rZ_right j c n) = (0 : Int32) then n else (rZ_check_3 f j c (n + (1 : Int32)))
set_option maxHeartbeats 4000000 in
set_option maxRecDepth 100000 in
theorem tZ_check_3 (i : Nat → Int32) (a : Nat → Nat → Int32) : ∀ (f : Nat) (j : Nat → Int32) (c : Nat → Nat → Int32) (n : Int32), (Int32.toInt (j 3) - Int32.toInt n).toNat < f → 0 ≤ n.toInt ∧ 0 ≤ (j 3).toInt ∧ (j 3).toInt ≤ 256 → am_T sZ_check (some (.int (rZ_check_3 f j c n))) (wX i a (wZ j c)) 105 [.ref 30, .int n, .retAddr 0] [] (wX i a (wZ j c)) 0 0 := by
  intro f
  induction f with
  | zero => intro j c n hm; exact absurd hm (Nat.not_lt_zero _)
  | succ f ih =>
    intro j c n hm hp
    refine am_wu_T gdZ_check [105] 400 ?_
    refine am_split (fun h1 => ?_) (fun h1 => ?_)
    · skip
      exact am_ri (S := sZ_check) (by simp only [rZ_check_3, if_pos h1]; try rfl) rfl rfl rfl
    · skip
      refine And.intro (by exact vp_nn hp.1 (by assumption) hp.2.2) ?_
      refine am_split (fun h2 => ?_) (fun h2 => ?_)
      · skip
        exact am_Tc (am_Tw (ih j c (n + (1 : Int32)) (ms_up (by assumption) hm) ⟨nn_up hp.1 (by assumption), hp.2⟩) ⟨Or.inr rfl, Or.inr rfl, Or.inl rfl, trivial⟩) (by simp only [rZ_check_3, if_neg h1, if_pos h2]) rfl
      · skip
        refine am_call (eZ_right j c n i a  (by first | with_reducible exact hp.1 | with_reducible exact hp.2.1 | with_reducible exact hp.2.2 | with_reducible exact le256 (by assumption) hp.2.2) (by first | with_reducible exact hp.1 | with_reducible exact hp.2.1 | with_reducible exact hp.2.2 | with_reducible exact le256 (by assumption) hp.2.2) (by first | with_reducible exact hp.1 | with_reducible exact hp.2.1 | with_reducible exact hp.2.2 | with_reducible exact le256 (by assumption) hp.2.2) (by first | with_reducible exact hp.1 | with_reducible exact hp.2.1 | with_reducible exact hp.2.2 | with_reducible exact le256 (by assumption) hp.2.2)) ?_
        refine am_split (fun h3 => ?_) (fun h3 => ?_)
        · skip
          exact am_ri (S := sZ_check) (by simp only [rZ_check_3, if_neg h1, if_neg h2, if_pos h3]; try rfl) rfl rfl rfl
        · skip
          exact am_Tc (am_Tw (ih j c (n + (1 : Int32)) (ms_up (by assumption) hm) ⟨nn_up hp.1 (by assumption), hp.2⟩) ⟨Or.inr rfl, Or.inr rfl, Or.inl rfl, trivial⟩) (by simp only [rZ_check_3, if_neg h1, if_neg h2, if_neg h3]) rfl
noncomputable def rZ_check_2 : Nat → (Nat → Int32) → (Nat → Nat → Int32) → Int32 → Int32
  | 0, _, _, _ => 0
  | f + 1, j, c, n => if (j 3) ≤ n then (rZ_check_3 ((Int32.toInt (j 3) - Int32.toInt (48 : Int32)).toNat + 1) j c (48 : Int32)) else if (rZ_kind j (sA c (upd (c 12) (Int32.toNatClampNeg n) (vp_nar .boolean (1 : Int32))) 12) (rZ_bitsAt j (sA c (upd (c 12) (Int32.toNatClampNeg n) (vp_nar .boolean (1 : Int32))) 12) n)) < (0 : Int32) then n else if ((n - n / (16 : Int32) * (16 : Int32)) + (rZ_bytesOf (rZ_bitsAt j (sA c (upd (c 12) (Int32.toNatClampNeg n) (vp_nar .boolean (1 : Int32))) 12) n))) ≤ (16 : Int32) then (rZ_check_2 f j (sA c (upd (c 12) (Int32.toNatClampNeg n) (vp_nar .boolean (1 : Int32))) 12) (n + (rZ_bytesOf (rZ_bitsAt j (sA c (upd (c 12) (Int32.toNatClampNeg n) (vp_nar .boolean (1 : Int32))) 12) n)))) else n
noncomputable def aZ_check_2 : Nat → (Nat → Int32) → (Nat → Nat → Int32) → Int32 → Nat → Nat → Int32
  | 0, _, c, _ => c
  | f + 1, j, c, n => if (j 3) ≤ n then c else if (rZ_kind j (sA c (upd (c 12) (Int32.toNatClampNeg n) (vp_nar .boolean (1 : Int32))) 12) (rZ_bitsAt j (sA c (upd (c 12) (Int32.toNatClampNeg n) (vp_nar .boolean (1 : Int32))) 12) n)) < (0 : Int32) then (sA c (upd (c 12) (Int32.toNatClampNeg n) (vp_nar .boolean (1 : Int32))) 12) else if ((n - n / (16 : Int32) * (16 : Int32)) + (rZ_bytesOf (rZ_bitsAt j (sA c (upd (c 12) (Int32.toNatClampNeg n) (vp_nar .boolean (1 : Int32))) 12) n))) ≤ (16 : Int32) then (aZ_check_2 f j (sA c (upd (c 12) (Int32.toNatClampNeg n) (vp_nar .boolean (1 : Int32))) 12) (n + (rZ_bytesOf (rZ_bitsAt j (sA c (upd (c 12) (Int32.toNatClampNeg n) (vp_nar .boolean (1 : Int32))) 12) n)))) else (sA c (upd (c 12) (Int32.toNatClampNeg n) (vp_nar .boolean (1 : Int32))) 12)
set_option maxHeartbeats 4000000 in
set_option maxRecDepth 100000 in
theorem tZ_check_2 (i : Nat → Int32) (a : Nat → Nat → Int32) : ∀ (f : Nat) (j : Nat → Int32) (c : Nat → Nat → Int32) (n : Int32), (Int32.toInt (j 3) - Int32.toInt n).toNat < f → 0 ≤ n.toInt ∧ 0 ≤ (j 3).toInt ∧ (j 3).toInt ≤ 256 → am_T sZ_check (some (.int (rZ_check_2 f j c n))) (wX i a (wZ j (aZ_check_2 f j c n))) 47 [.ref 30, .int n, .retAddr 0] [] (wX i a (wZ j c)) 0 0 := by
  intro f
  induction f with
  | zero => intro j c n hm; exact absurd hm (Nat.not_lt_zero _)
  | succ f ih =>
    intro j c n hm hp
    refine am_wu_T gdZ_check [47, 105] 400 ?_
    refine am_split (fun h1 => ?_) (fun h1 => ?_)
    · skip
      exact am_Tc (am_Tw (tZ_check_3 i a ((Int32.toInt (j 3) - Int32.toInt (48 : Int32)).toNat + 1) j c (48 : Int32) (Nat.lt_add_one _) ⟨by decide, hp.2⟩) ⟨Or.inr rfl, Or.inr rfl, Or.inl rfl, trivial⟩) (by unfold rZ_check_2; simp only [if_pos h1]; try rfl) (by unfold aZ_check_2; simp only [if_pos h1]; try rfl)
    · skip
      refine And.intro (by exact vp_nn hp.1 (by assumption) hp.2.2) ?_
      refine am_call (eZ_bitsAt j (sA c (upd (c 12) (Int32.toNatClampNeg n) (vp_nar .boolean (1 : Int32))) 12) n i a  (by first | with_reducible exact hp.1 | with_reducible exact hp.2.2 | with_reducible exact le1000 (le256 (by assumption) hp.2.2)) (by first | with_reducible exact hp.1 | with_reducible exact hp.2.2 | with_reducible exact le1000 (le256 (by assumption) hp.2.2)) (by first | with_reducible exact hp.1 | with_reducible exact hp.2.2 | with_reducible exact le1000 (le256 (by assumption) hp.2.2))) ?_
      refine am_call (eZ_kind j (sA c (upd (c 12) (Int32.toNatClampNeg n) (vp_nar .boolean (1 : Int32))) 12) (rZ_bitsAt j (sA c (upd (c 12) (Int32.toNatClampNeg n) (vp_nar .boolean (1 : Int32))) 12) n) i a) ?_
      refine am_split (fun h2 => ?_) (fun h2 => ?_)
      · skip
        exact am_ri (S := sZ_check) (by simp only [rZ_check_2, if_neg h1, if_pos h2]; try rfl) (by simp only [aZ_check_2, if_neg h1, if_pos h2]; try rfl) rfl rfl
      · skip
        refine am_call (eZ_bytesOf (rZ_bitsAt j (sA c (upd (c 12) (Int32.toNatClampNeg n) (vp_nar .boolean (1 : Int32))) 12) n) _) ?_
        refine am_split (fun h3 => ?_) (fun h3 => ?_)
        · skip
          refine am_call (eZ_bytesOf (rZ_bitsAt j (sA c (upd (c 12) (Int32.toNatClampNeg n) (vp_nar .boolean (1 : Int32))) 12) n) _) ?_
          exact am_Tc (am_Tw (ih j (sA c (upd (c 12) (Int32.toNatClampNeg n) (vp_nar .boolean (1 : Int32))) 12) (n + (rZ_bytesOf (rZ_bitsAt j (sA c (upd (c 12) (Int32.toNatClampNeg n) (vp_nar .boolean (1 : Int32))) 12) n))) (ms_b (by assumption) hp.2.2 hp.1 hm) ⟨nn_b (by assumption) hp.2.2 hp.1, hp.2⟩) ⟨Or.inr rfl, Or.inr rfl, Or.inl rfl, trivial⟩) (by simp only [rZ_check_2, if_neg h1, if_neg h2, if_pos h3]) (by simp only [aZ_check_2, if_neg h1, if_neg h2, if_pos h3])
        · skip
          exact am_ri (S := sZ_check) (by simp only [rZ_check_2, if_neg h1, if_neg h2, if_neg h3]; try rfl) (by simp only [aZ_check_2, if_neg h1, if_neg h2, if_neg h3]; try rfl) rfl rfl
noncomputable def rZ_check_1 : Nat → (Nat → Int32) → (Nat → Nat → Int32) → Int32 → Int32
  | 0, _, _, _ => 0
  | f + 1, j, c, n => if (256 : Int32) ≤ n then (rZ_check_2 ((Int32.toInt (j 3) - Int32.toInt (48 : Int32)).toNat + 1) j c (48 : Int32)) else (rZ_check_1 f j (sA c (upd (c 12) (Int32.toNatClampNeg n) (vp_nar .boolean (0 : Int32))) 12) (n + (1 : Int32)))
noncomputable def aZ_check_1 : Nat → (Nat → Int32) → (Nat → Nat → Int32) → Int32 → Nat → Nat → Int32
  | 0, _, c, _ => c
  | f + 1, j, c, n => if (256 : Int32) ≤ n then (aZ_check_2 ((Int32.toInt (j 3) - Int32.toInt (48 : Int32)).toNat + 1) j c (48 : Int32)) else (aZ_check_1 f j (sA c (upd (c 12) (Int32.toNatClampNeg n) (vp_nar .boolean (0 : Int32))) 12) (n + (1 : Int32)))
set_option maxHeartbeats 4000000 in
set_option maxRecDepth 100000 in
theorem tZ_check_1 (i : Nat → Int32) (a : Nat → Nat → Int32) : ∀ (f : Nat) (j : Nat → Int32) (c : Nat → Nat → Int32) (n : Int32), ((256 : Int32).toInt - Int32.toInt n).toNat < f → 0 ≤ n.toInt ∧ 0 ≤ (j 3).toInt ∧ (j 3).toInt ≤ 256 → am_T sZ_check (some (.int (rZ_check_1 f j c n))) (wX i a (wZ j (aZ_check_1 f j c n))) 24 [.ref 30, .int n, .retAddr 0] [] (wX i a (wZ j c)) 0 0 := by
  intro f
  induction f with
  | zero => intro j c n hm; exact absurd hm (Nat.not_lt_zero _)
  | succ f ih =>
    intro j c n hm hp
    refine am_wu_T gdZ_check [24, 47] 400 ?_
    refine am_split (fun h1 => ?_) (fun h1 => ?_)
    · skip
      exact am_Tc (am_Tw (tZ_check_2 i a ((Int32.toInt (j 3) - Int32.toInt (48 : Int32)).toNat + 1) j c (48 : Int32) (Nat.lt_add_one _) ⟨by decide, hp.2⟩) ⟨Or.inr rfl, Or.inr rfl, Or.inl rfl, trivial⟩) (by unfold rZ_check_1; simp only [if_pos h1]; try rfl) (by unfold aZ_check_1; simp only [if_pos h1]; try rfl)
    · skip
      refine And.intro (by exact vp_nn (M := 256) hp.1 (by assumption) (by decide)) ?_
      exact am_Tc (am_Tw (ih j (sA c (upd (c 12) (Int32.toNatClampNeg n) (vp_nar .boolean (0 : Int32))) 12) (n + (1 : Int32)) (ms_up (M := 256) (by assumption) hm) ⟨nn_up (M := 256) hp.1 (by assumption), hp.2⟩) ⟨Or.inr rfl, Or.inr rfl, Or.inl rfl, trivial⟩) (by simp only [rZ_check_1, if_neg h1]) (by simp only [aZ_check_1, if_neg h1])
noncomputable def rZ_check (j : Nat → Int32) (c : Nat → Nat → Int32) : Int32 := if ((j 3) - (j 3) / (16 : Int32) * (16 : Int32)) = (0 : Int32) then if (48 : Int32) < (j 3) then (rZ_check_1 (((256 : Int32).toInt - Int32.toInt (0 : Int32)).toNat + 1) j c (0 : Int32)) else (48 : Int32) else (48 : Int32)
noncomputable def aZ_check (j : Nat → Int32) (c : Nat → Nat → Int32) : Nat → Nat → Int32 := if ((j 3) - (j 3) / (16 : Int32) * (16 : Int32)) = (0 : Int32) then if (48 : Int32) < (j 3) then (aZ_check_1 (((256 : Int32).toInt - Int32.toInt (0 : Int32)).toNat + 1) j c (0 : Int32)) else c else c
set_option maxHeartbeats 4000000 in
set_option maxRecDepth 100000 in
theorem eZ_check (j : Nat → Int32) (c : Nat → Nat → Int32) (i : Nat → Int32) (a : Nat → Nat → Int32) (hs0 : 0 ≤ (j 3).toInt) (hs : (j 3).toInt ≤ 256) : am_Ev sZ_check [.ref 30] (wX i a (wZ j c)) (some (.int (rZ_check j c ))) (wX i a (wZ j (aZ_check j c ))) := by
  refine am_Ev_of cwZ_check rfl rfl rfl (am_wt_T gdZ_check [24] 400 ?_)
  refine am_split (fun h1 => ?_) (fun h1 => ?_)
  · skip
    refine am_split (fun h2 => ?_) (fun h2 => ?_)
    · skip
      exact am_Tc (am_Tw (tZ_check_1 i a (((256 : Int32).toInt - Int32.toInt (0 : Int32)).toNat + 1) j c (0 : Int32) (Nat.lt_add_one _) ⟨by decide, hs0, hs⟩) ⟨Or.inr rfl, Or.inr rfl, Or.inl rfl, trivial⟩) (by unfold rZ_check; simp only [if_pos h1, if_pos h2]; try rfl) (by unfold aZ_check; simp only [if_pos h1, if_pos h2]; try rfl)
    · skip
      exact am_ri (S := sZ_check) (by unfold rZ_check; simp only [if_pos h1, if_neg h2]; try rfl) (by unfold aZ_check; simp only [if_pos h1, if_neg h2]; try rfl) rfl rfl
  · skip
    exact am_ri (S := sZ_check) (by unfold rZ_check; simp only [if_neg h1]; try rfl) (by unfold aZ_check; simp only [if_neg h1]; try rfl) rfl rfl
noncomputable def rZ_encode (j : Nat → Int32) (c : Nat → Nat → Int32) (p q r s : Int32) : Int32 := if (rZ_outside p (0 : Int32) (14 : Int32)) = (0 : Int32) then if (rZ_fits p q r s) = (0 : Int32) then (-1 : Int32) else (rZ_made p q r s) else (-1 : Int32)
set_option maxHeartbeats 4000000 in
set_option maxRecDepth 100000 in
theorem eZ_encode (j : Nat → Int32) (c : Nat → Nat → Int32) (p q r s : Int32) (i : Nat → Int32) (a : Nat → Nat → Int32) : am_Ev sZ_encode [.ref 30, .int p, .int q, .int r, .int s] (wX i a (wZ j c)) (some (.int (rZ_encode j c p q r s))) (wX i a (wZ j c)) := by
  refine am_Ev_of cwZ_encode rfl rfl rfl (am_wp_T gdZ_encode 400 ?_)
  refine am_call (eZ_outside p (0 : Int32) (14 : Int32) _) ?_
  refine am_split (fun h1 => ?_) (fun h1 => ?_)
  · skip
    refine am_call (eZ_fits p q r s _) ?_
    refine am_split (fun h2 => ?_) (fun h2 => ?_)
    · skip
      exact am_ri (S := sZ_encode) (by unfold rZ_encode; simp only [if_pos h1, if_pos h2]; try rfl) rfl rfl rfl
    · skip
      refine am_call (eZ_made p q r s _) ?_
      exact am_ri (S := sZ_encode) (by unfold rZ_encode; simp only [if_pos h1, if_neg h2]; try rfl) rfl rfl rfl
  · skip
    exact am_ri (S := sZ_encode) (by unfold rZ_encode; simp only [if_neg h1]; try rfl) rfl rfl rfl

/-! walks by program: the reference's trial -/
def PL (j : Nat → Int32) (c : Nat → Nat → Int32) : Prop := 0 ≤ (j 1).toInt ∧ (j 1).toInt ≤ 20 ∧ ∀ n : Nat, (n : Int) < (j 1).toInt → LT (j 1) (c 4 n) (c 5 n) (c 6 n) (c 7 n)
def TI (j : Nat → Int32) (c : Nat → Nat → Int32) : Prop := PL j c ∧ (j 5).toInt ≤ 20 ∧ 0 ≤ (j 6).toInt ∧ 0 ≤ (c 17 (Int32.toNatClampNeg (1 : Int32))).toInt ∧ 0 ≤ (c 19 (Int32.toNatClampNeg (1 : Int32))).toInt ∧ (c 19 (Int32.toNatClampNeg (1 : Int32))).toInt ≤ (j 1).toInt
theorem nb_ne {a b : Nat} (h : a ≠ b) : Nat.beq a b = false := by
  cases h2 : Nat.beq a b with
  | false => rfl
  | true => exact absurd (Nat.eq_of_beq_eq_true h2) h
theorem cl_i {x : Int32} (h : 0 ≤ x.toInt) : (x.toNatClampNeg : Int) = x.toInt := by
  show ((x.toInt.toNat : Nat) : Int) = x.toInt
  omega
theorem TI_L {j : Nat → Int32} {c : Nat → Nat → Int32} (h : TI j c) : ¬ c 19 (Int32.toNatClampNeg (1 : Int32)) = j 1 → LT (j 1) (c 4 (Int32.toNatClampNeg (c 19 (Int32.toNatClampNeg (1 : Int32))))) (c 5 (Int32.toNatClampNeg (c 19 (Int32.toNatClampNeg (1 : Int32))))) (c 6 (Int32.toNatClampNeg (c 19 (Int32.toNatClampNeg (1 : Int32))))) (c 7 (Int32.toNatClampNeg (c 19 (Int32.toNatClampNeg (1 : Int32))))) := fun g => by
  obtain ⟨hP, -, -, -, h0, h1⟩ := h
  apply hP.2.2
  rw [cl_i h0]
  have := ne_i g
  omega
theorem TI_v {j : Nat → Int32} {c : Nat → Nat → Int32} (h : TI j c) : ¬ c 19 (Int32.toNatClampNeg (1 : Int32)) = j 1 → vp_in (c 19 (Int32.toNatClampNeg (1 : Int32))) 20 := fun g => by
  obtain ⟨hP, -, -, -, h0, h1⟩ := h
  have := ne_i g
  have := hP.2.1
  rw [vp_in_iff]
  omega
theorem TI_v1 {j : Nat → Int32} {c : Nat → Nat → Int32} (h : TI j c) : ¬ c 19 (Int32.toNatClampNeg (1 : Int32)) = j 1 → vp_in (c 19 (Int32.toNatClampNeg (1 : Int32)) + 1) 21 := fun g => by
  obtain ⟨hP, -, -, -, h0, h1⟩ := h
  have := ne_i g
  have := hP.2.1
  rw [vp_in_iff, one_i (by omega)]
  omega
theorem TI_K {j : Nat → Int32} {c : Nat → Nat → Int32} (h : TI j c) : ¬ c 19 (Int32.toNatClampNeg (1 : Int32)) = j 1 → LOK (c 4 (Int32.toNatClampNeg (c 19 (Int32.toNatClampNeg (1 : Int32))))) (c 5 (Int32.toNatClampNeg (c 19 (Int32.toNatClampNeg (1 : Int32))))) (c 6 (Int32.toNatClampNeg (c 19 (Int32.toNatClampNeg (1 : Int32))))) (c 7 (Int32.toNatClampNeg (c 19 (Int32.toNatClampNeg (1 : Int32))))) := fun g => (TI_L h g).1
theorem TI_b {j : Nat → Int32} {c : Nat → Nat → Int32} (h : TI j c) : (j 1).toInt ≤ 20 := h.1.2.1
theorem TI_hi {j : Nat → Int32} {c : Nat → Nat → Int32} (h : TI j c) : ¬ j 5 ≤ j 6 → vp_in (j 6) 20 := fun h1 => by
  have := nle h1
  have := h.2.1
  have := h.2.2.1
  rw [vp_in_iff]
  omega
theorem TI_ho {j : Nat → Int32} {c : Nat → Nat → Int32} (h : TI j c) : ¬ (40 : Int32) ≤ c 17 (Int32.toNatClampNeg (1 : Int32)) → vp_in (((40 : Int32) * (1 : Int32)) + c 17 (Int32.toNatClampNeg (1 : Int32))) 80 := fun h1 => by
  have h2 := nle h1
  rw [show (40 : Int32).toInt = 40 from rfl] at h2
  have h3 := h.2.2.2.1
  have e2 : ((40 : Int32) * (1 : Int32)).toInt = 40 := rfl
  exact in_off (by omega) (by omega) (by omega) (by decide)
theorem TI_up {j I1 : Nat → Int32} {c A1 : Nat → Nat → Int32} {f : Nat → Int32} (h : TI j c) (hI : I1 = iZ_lineDone j c) (hA : A1 = aZ_lineDone j c) : TI I1 (sA A1 f 18) := by
  have h1 := PI_lineDone (j0 := j) ⟨rfl, rfl, rfl, h.2.2.1⟩ h.2.1 c
  have h2 := PT_lineDone h.2.2.2.1 h.2.2.2.2.1 h.2.2.2.2.2 h.1.1 h.1.2.1 (TI_L h)
  rw [← hI] at h1
  rw [← hA] at h2
  obtain ⟨p3, p5, p1, p6⟩ := h1
  obtain ⟨q4, q5, q6, q7, q18, q17, q190, q191⟩ := h2
  refine ⟨⟨by rw [p1]; exact h.1.1, by rw [p1]; exact h.1.2.1, fun n hn => ?_⟩, by rw [p5]; exact h.2.1, p6, q17, q190, by rw [p1]; exact q191⟩
  rw [p1] at hn ⊢
  rw [sA_ne rfl, sA_ne rfl, sA_ne rfl, sA_ne rfl, q4, q5, q6, q7]
  exact h.1.2.2 n hn
theorem TI_18 {j : Nat → Int32} {c : Nat → Nat → Int32} (h : TI j c) : aZ_lineDone j c 18 = c 18 := (PT_lineDone h.2.2.2.1 h.2.2.2.2.1 h.2.2.2.2.2 h.1.1 h.1.2.1 (TI_L h)).2.2.2.2.1
theorem anew1_f2 : ∀ (f : Nat) (j : Nat → Int32) (c : Nat → Nat → Int32) (n : Int32) (k : Nat), k < 14 → aZ_anew1_2 f j c n k = c k := by
  intro f
  induction f with
  | zero => intro j c n k hk; rfl
  | succ f ih =>
    intro j c n k hk
    have e15 : Nat.beq k 15 = false := nb_ne (by omega)
    have e17 : Nat.beq k 17 = false := nb_ne (by omega)
    have e18 : Nat.beq k 18 = false := nb_ne (by omega)
    have e20 : Nat.beq k 20 = false := nb_ne (by omega)
    rw [aZ_anew1_2]
    split
    · rw [sA_ne e20, sA_ne e18, sA_ne e17]
    · rw [ih _ _ _ _ hk, sA_ne e15]
theorem anew1_f1 : ∀ (f : Nat) (j : Nat → Int32) (c : Nat → Nat → Int32) (n : Int32) (k : Nat), k < 14 → aZ_anew1_1 f j c n k = c k := by
  intro f
  induction f with
  | zero => intro j c n k hk; rfl
  | succ f ih =>
    intro j c n k hk
    have e14 : Nat.beq k 14 = false := nb_ne (by omega)
    rw [aZ_anew1_1]
    split
    · exact anew1_f2 _ _ _ _ _ hk
    · rw [ih _ _ _ _ hk, sA_ne e14]
theorem TI_ent {j I1 : Nat → Int32} {c A1 : Nat → Nat → Int32} (hP : PL j c) (h5 : (j 5).toInt ≤ 20) (hI : I1 = iZ_anew1 j c) (hA1 : A1 = aZ_anew1 j c) : TI I1 (sA A1 (upd (A1 19) (Int32.toNatClampNeg (1 : Int32)) 0) 19) := by
  have h1 := anew1_i j c
  have hf : ∀ k, k < 14 → A1 k = c k := fun k hk => by rw [hA1]; unfold aZ_anew1; exact anew1_f1 _ _ _ _ _ hk
  rw [← hI, ← hA1] at h1
  have e1 : I1 1 = j 1 := by rw [h1.1]; rfl
  refine ⟨⟨by rw [e1]; exact hP.1, by rw [e1]; exact hP.2.1, fun n hn => ?_⟩, ?_, ?_, ?_, ?_, ?_⟩
  · rw [e1] at hn ⊢
    rw [sA_ne rfl, sA_ne rfl, sA_ne rfl, sA_ne rfl, hf 4 (by decide), hf 5 (by decide), hf 6 (by decide), hf 7 (by decide)]
    exact hP.2.2 n hn
  · rw [h1.1]; exact h5
  · rw [h1.1]; exact Int.le_refl 0
  · rw [sA_ne rfl, h1.2]; exact Int.le_refl 0
  · exact Int.le_refl 0
  · rw [e1]; exact hP.1
noncomputable def rZ_trial_l : Nat → (Nat → Int32) → (Nat → Nat → Int32) → Int32 → Int32 → Int32
  | 0, _, _, _, _ => 0
  | f + 1, j, c, t, x => if x = (0 : Int32) then if t ≤ ((c 18) (Int32.toNatClampNeg (1 : Int32))) then x else if (rZ_lineDone j c ) = (0 : Int32) then (rZ_trial_l f (iZ_lineDone j c ) (sA (aZ_lineDone j c ) (upd ((aZ_lineDone j c ) 18) (Int32.toNatClampNeg (1 : Int32)) ((((aZ_lineDone j c ) 18) (Int32.toNatClampNeg (1 : Int32))) + (1 : Int32))) 18) t (rZ_lineDone j c )) else if (rZ_lineDone j c ) = (1 : Int32) then (rZ_trial_l f (iZ_lineDone j c ) (sA (aZ_lineDone j c ) (upd ((aZ_lineDone j c ) 18) (Int32.toNatClampNeg (1 : Int32)) ((((aZ_lineDone j c ) 18) (Int32.toNatClampNeg (1 : Int32))) + (1 : Int32))) 18) t (rZ_lineDone j c )) else (rZ_trial_l f (iZ_lineDone j c ) (sA (aZ_lineDone j c ) (upd ((aZ_lineDone j c ) 18) (Int32.toNatClampNeg (1 : Int32)) (((aZ_lineDone j c ) 18) (Int32.toNatClampNeg (1 : Int32)))) 18) t (rZ_lineDone j c )) else x
noncomputable def iZ_trial_l : Nat → (Nat → Int32) → (Nat → Nat → Int32) → Int32 → Int32 → Nat → Int32
  | 0, j, _, _, _ => j
  | f + 1, j, c, t, x => if x = (0 : Int32) then if t ≤ ((c 18) (Int32.toNatClampNeg (1 : Int32))) then j else if (rZ_lineDone j c ) = (0 : Int32) then (iZ_trial_l f (iZ_lineDone j c ) (sA (aZ_lineDone j c ) (upd ((aZ_lineDone j c ) 18) (Int32.toNatClampNeg (1 : Int32)) ((((aZ_lineDone j c ) 18) (Int32.toNatClampNeg (1 : Int32))) + (1 : Int32))) 18) t (rZ_lineDone j c )) else if (rZ_lineDone j c ) = (1 : Int32) then (iZ_trial_l f (iZ_lineDone j c ) (sA (aZ_lineDone j c ) (upd ((aZ_lineDone j c ) 18) (Int32.toNatClampNeg (1 : Int32)) ((((aZ_lineDone j c ) 18) (Int32.toNatClampNeg (1 : Int32))) + (1 : Int32))) 18) t (rZ_lineDone j c )) else (iZ_trial_l f (iZ_lineDone j c ) (sA (aZ_lineDone j c ) (upd ((aZ_lineDone j c ) 18) (Int32.toNatClampNeg (1 : Int32)) (((aZ_lineDone j c ) 18) (Int32.toNatClampNeg (1 : Int32)))) 18) t (rZ_lineDone j c )) else j
noncomputable def aZ_trial_l : Nat → (Nat → Int32) → (Nat → Nat → Int32) → Int32 → Int32 → Nat → Nat → Int32
  | 0, _, c, _, _ => c
  | f + 1, j, c, t, x => if x = (0 : Int32) then if t ≤ ((c 18) (Int32.toNatClampNeg (1 : Int32))) then c else if (rZ_lineDone j c ) = (0 : Int32) then (aZ_trial_l f (iZ_lineDone j c ) (sA (aZ_lineDone j c ) (upd ((aZ_lineDone j c ) 18) (Int32.toNatClampNeg (1 : Int32)) ((((aZ_lineDone j c ) 18) (Int32.toNatClampNeg (1 : Int32))) + (1 : Int32))) 18) t (rZ_lineDone j c )) else if (rZ_lineDone j c ) = (1 : Int32) then (aZ_trial_l f (iZ_lineDone j c ) (sA (aZ_lineDone j c ) (upd ((aZ_lineDone j c ) 18) (Int32.toNatClampNeg (1 : Int32)) ((((aZ_lineDone j c ) 18) (Int32.toNatClampNeg (1 : Int32))) + (1 : Int32))) 18) t (rZ_lineDone j c )) else (aZ_trial_l f (iZ_lineDone j c ) (sA (aZ_lineDone j c ) (upd ((aZ_lineDone j c ) 18) (Int32.toNatClampNeg (1 : Int32)) (((aZ_lineDone j c ) 18) (Int32.toNatClampNeg (1 : Int32)))) 18) t (rZ_lineDone j c )) else c
set_option maxHeartbeats 4000000 in
set_option maxRecDepth 100000 in
theorem tZ_trial_l (i : Nat → Int32) (a : Nat → Nat → Int32) : ∀ (f : Nat) (j : Nat → Int32) (c : Nat → Nat → Int32) (t x : Int32), (if x = 0 then (Int32.toInt t - Int32.toInt (c 18 (Int32.toNatClampNeg (1 : Int32)))).toNat + 1 else 0) < f → TI j c → am_T sZ_trial (some (.int (rZ_trial_l f j c t x))) (wX i a (wZ (iZ_trial_l f j c t x) (aZ_trial_l f j c t x))) 27 [.ref 30, .int t, .int x] [] (wX i a (wZ j c)) 0 0 := by
  intro f
  induction f with
  | zero => intro j c t x hm; exact absurd hm (Nat.not_lt_zero _)
  | succ f ih =>
    intro j c t x hm hp
    refine am_wu_T gdZ_trial [27] 400 ?_
    refine am_split (fun h1 => ?_) (fun h1 => ?_)
    · skip
      refine And.intro (by exact vp_lit rfl) ?_
      refine am_split (fun h2 => ?_) (fun h2 => ?_)
      · skip
        exact am_ri (x := x) (S := sZ_trial) (congrArg (fun x => some (Value.int x)) (by rw [rZ_trial_l]; rw [if_pos h1, if_pos h2])) (am_w2z (i2 := j) (a2 := c) (by rw [iZ_trial_l]; rw [if_pos h1, if_pos h2]) (by rw [aZ_trial_l]; rw [if_pos h1, if_pos h2]) rfl) rfl rfl
      · skip
        refine am_callz (eZ_lineDone j c  i a  (by first | with_reducible exact TI_v hp | with_reducible exact TI_v1 hp | with_reducible exact TI_K hp | with_reducible exact TI_b hp | with_reducible exact TI_hi hp | with_reducible exact TI_ho hp) (by first | with_reducible exact TI_v hp | with_reducible exact TI_v1 hp | with_reducible exact TI_K hp | with_reducible exact TI_b hp | with_reducible exact TI_hi hp | with_reducible exact TI_ho hp) (by first | with_reducible exact TI_v hp | with_reducible exact TI_v1 hp | with_reducible exact TI_K hp | with_reducible exact TI_b hp | with_reducible exact TI_hi hp | with_reducible exact TI_ho hp) (by first | with_reducible exact TI_v hp | with_reducible exact TI_v1 hp | with_reducible exact TI_K hp | with_reducible exact TI_b hp | with_reducible exact TI_hi hp | with_reducible exact TI_ho hp) (by first | with_reducible exact TI_v hp | with_reducible exact TI_v1 hp | with_reducible exact TI_K hp | with_reducible exact TI_b hp | with_reducible exact TI_hi hp | with_reducible exact TI_ho hp) (by first | with_reducible exact TI_v hp | with_reducible exact TI_v1 hp | with_reducible exact TI_K hp | with_reducible exact TI_b hp | with_reducible exact TI_hi hp | with_reducible exact TI_ho hp)) (fun I1 A1 hI1 hA1 => ?_)
        refine am_split (fun h3 => ?_) (fun h3 => ?_)
        · skip
          refine And.intro (by exact vp_lit rfl) ?_
          refine And.intro (by exact vp_lit rfl) ?_
          exact am_Tc (am_Tw (ih I1 (sA A1 (upd (A1 18) (Int32.toNatClampNeg (1 : Int32)) (((A1 18) (Int32.toNatClampNeg (1 : Int32))) + (1 : Int32))) 18) t (rZ_lineDone j c ) (by first | (show (if rZ_lineDone j c = 0 then (Int32.toInt t - Int32.toInt (A1 18 (Int32.toNatClampNeg (1 : Int32)) + 1)).toNat + 1 else 0) < f; rw [hA1, TI_18 hp]; exact run_ms1 (by assumption) (by assumption) hm) | exact run_ms2 (by assumption) (by assumption) (by assumption) hm) (TI_up hp hI1 hA1)) ⟨Or.inr rfl, Or.inr rfl, Or.inr rfl, trivial⟩) (congrArg (fun x => some (Value.int x)) (by rw [rZ_trial_l]; (try rw [← hI1]); (try rw [← hA1]); rw [if_pos h1, if_neg h2, if_pos h3])) (am_w2z (by rw [iZ_trial_l]; (try rw [← hI1]); (try rw [← hA1]); rw [if_pos h1, if_neg h2, if_pos h3]) (by rw [aZ_trial_l]; (try rw [← hI1]); (try rw [← hA1]); rw [if_pos h1, if_neg h2, if_pos h3]) rfl)
        · skip
          refine am_split (fun h4 => ?_) (fun h4 => ?_)
          · skip
            refine And.intro (by exact vp_lit rfl) ?_
            refine And.intro (by exact vp_lit rfl) ?_
            exact am_Tc (am_Tw (ih I1 (sA A1 (upd (A1 18) (Int32.toNatClampNeg (1 : Int32)) (((A1 18) (Int32.toNatClampNeg (1 : Int32))) + (1 : Int32))) 18) t (rZ_lineDone j c ) (by first | (show (if rZ_lineDone j c = 0 then (Int32.toInt t - Int32.toInt (A1 18 (Int32.toNatClampNeg (1 : Int32)) + 1)).toNat + 1 else 0) < f; rw [hA1, TI_18 hp]; exact run_ms1 (by assumption) (by assumption) hm) | exact run_ms2 (by assumption) (by assumption) (by assumption) hm) (TI_up hp hI1 hA1)) ⟨Or.inr rfl, Or.inr rfl, Or.inr rfl, trivial⟩) (congrArg (fun x => some (Value.int x)) (by rw [rZ_trial_l]; (try rw [← hI1]); (try rw [← hA1]); rw [if_pos h1, if_neg h2, if_neg h3, if_pos h4])) (am_w2z (by rw [iZ_trial_l]; (try rw [← hI1]); (try rw [← hA1]); rw [if_pos h1, if_neg h2, if_neg h3, if_pos h4]) (by rw [aZ_trial_l]; (try rw [← hI1]); (try rw [← hA1]); rw [if_pos h1, if_neg h2, if_neg h3, if_pos h4]) rfl)
          · skip
            refine And.intro (by exact vp_lit rfl) ?_
            refine And.intro (by exact vp_lit rfl) ?_
            exact am_Tc (am_Tw (ih I1 (sA A1 (upd (A1 18) (Int32.toNatClampNeg (1 : Int32)) ((A1 18) (Int32.toNatClampNeg (1 : Int32)))) 18) t (rZ_lineDone j c ) (by first | (show (if rZ_lineDone j c = 0 then (Int32.toInt t - Int32.toInt (A1 18 (Int32.toNatClampNeg (1 : Int32)) + 1)).toNat + 1 else 0) < f; rw [hA1, TI_18 hp]; exact run_ms1 (by assumption) (by assumption) hm) | exact run_ms2 (by assumption) (by assumption) (by assumption) hm) (TI_up hp hI1 hA1)) ⟨Or.inr rfl, Or.inr rfl, Or.inr rfl, trivial⟩) (congrArg (fun x => some (Value.int x)) (by rw [rZ_trial_l]; (try rw [← hI1]); (try rw [← hA1]); rw [if_pos h1, if_neg h2, if_neg h3, if_neg h4])) (am_w2z (by rw [iZ_trial_l]; (try rw [← hI1]); (try rw [← hA1]); rw [if_pos h1, if_neg h2, if_neg h3, if_neg h4]) (by rw [aZ_trial_l]; (try rw [← hI1]); (try rw [← hA1]); rw [if_pos h1, if_neg h2, if_neg h3, if_neg h4]) rfl)
    · skip
      exact am_ri (x := x) (S := sZ_trial) (congrArg (fun x => some (Value.int x)) (by rw [rZ_trial_l]; rw [if_neg h1])) (am_w2z (i2 := j) (a2 := c) (by rw [iZ_trial_l]; rw [if_neg h1]) (by rw [aZ_trial_l]; rw [if_neg h1]) rfl) rfl rfl
noncomputable def rZ_trial (j : Nat → Int32) (c : Nat → Nat → Int32) (p : Int32) : Int32 := if (rZ_outside p (0 : Int32) (2000 : Int32)) = (0 : Int32) then (rZ_trial_l ((if (0 : Int32) = 0 then (Int32.toInt p - Int32.toInt ((sA (aZ_anew1 j c ) (upd ((aZ_anew1 j c ) 19) (Int32.toNatClampNeg (1 : Int32)) (0 : Int32)) 19) 18 (Int32.toNatClampNeg (1 : Int32)))).toNat + 1 else 0) + 1) (iZ_anew1 j c ) (sA (aZ_anew1 j c ) (upd ((aZ_anew1 j c ) 19) (Int32.toNatClampNeg (1 : Int32)) (0 : Int32)) 19) p (0 : Int32)) else (-1 : Int32)
noncomputable def iZ_trial (j : Nat → Int32) (c : Nat → Nat → Int32) (p : Int32) : Nat → Int32 := if (rZ_outside p (0 : Int32) (2000 : Int32)) = (0 : Int32) then (iZ_trial_l ((if (0 : Int32) = 0 then (Int32.toInt p - Int32.toInt ((sA (aZ_anew1 j c ) (upd ((aZ_anew1 j c ) 19) (Int32.toNatClampNeg (1 : Int32)) (0 : Int32)) 19) 18 (Int32.toNatClampNeg (1 : Int32)))).toNat + 1 else 0) + 1) (iZ_anew1 j c ) (sA (aZ_anew1 j c ) (upd ((aZ_anew1 j c ) 19) (Int32.toNatClampNeg (1 : Int32)) (0 : Int32)) 19) p (0 : Int32)) else j
noncomputable def aZ_trial (j : Nat → Int32) (c : Nat → Nat → Int32) (p : Int32) : Nat → Nat → Int32 := if (rZ_outside p (0 : Int32) (2000 : Int32)) = (0 : Int32) then (aZ_trial_l ((if (0 : Int32) = 0 then (Int32.toInt p - Int32.toInt ((sA (aZ_anew1 j c ) (upd ((aZ_anew1 j c ) 19) (Int32.toNatClampNeg (1 : Int32)) (0 : Int32)) 19) 18 (Int32.toNatClampNeg (1 : Int32)))).toNat + 1 else 0) + 1) (iZ_anew1 j c ) (sA (aZ_anew1 j c ) (upd ((aZ_anew1 j c ) 19) (Int32.toNatClampNeg (1 : Int32)) (0 : Int32)) 19) p (0 : Int32)) else c
set_option maxHeartbeats 4000000 in
set_option maxRecDepth 100000 in
theorem eZ_trial (j : Nat → Int32) (c : Nat → Nat → Int32) (p : Int32) (i : Nat → Int32) (a : Nat → Nat → Int32) (hP : PL j c) (h5 : (j 5).toInt ≤ 20) : am_Ev sZ_trial [.ref 30, .int p] (wX i a (wZ j c)) (some (.int (rZ_trial j c p))) (wX i a (wZ (iZ_trial j c p) (aZ_trial j c p))) := by
  refine am_Ev_of cwZ_trial rfl rfl rfl (am_wt_T gdZ_trial [27] 400 ?_)
  refine am_call (eZ_outside p (0 : Int32) (2000 : Int32) _) ?_
  refine am_split (fun h1 => ?_) (fun h1 => ?_)
  · skip
    refine am_callz (eZ_anew1 j c  i a) (fun I1 A1 hI1 hA1 => ?_)
    refine And.intro (by exact vp_lit rfl) ?_
    exact am_Tc (am_Tw (tZ_trial_l i a ((if (0 : Int32) = 0 then (Int32.toInt p - Int32.toInt ((sA A1 (upd (A1 19) (Int32.toNatClampNeg (1 : Int32)) (0 : Int32)) 19) 18 (Int32.toNatClampNeg (1 : Int32)))).toNat + 1 else 0) + 1) I1 (sA A1 (upd (A1 19) (Int32.toNatClampNeg (1 : Int32)) (0 : Int32)) 19) p (0 : Int32) (Nat.lt_add_one _) (TI_ent hP h5 hI1 hA1)) ⟨Or.inr rfl, Or.inr rfl, Or.inr rfl, trivial⟩) (congrArg (fun x => some (Value.int x)) (by unfold rZ_trial; (try rw [← hI1]); (try rw [← hA1]); rw [if_pos h1])) (am_w2z (by unfold iZ_trial; (try rw [← hI1]); (try rw [← hA1]); rw [if_pos h1]) (by unfold aZ_trial; (try rw [← hI1]); (try rw [← hA1]); rw [if_pos h1]) rfl)
  · skip
    exact am_ri (x := (-1 : Int32)) (S := sZ_trial) (congrArg (fun x => some (Value.int x)) (by unfold rZ_trial; rw [if_neg h1])) (am_w2z (i2 := j) (a2 := c) (by unfold iZ_trial; rw [if_neg h1]) (by unfold aZ_trial; rw [if_neg h1]) rfl) rfl rfl

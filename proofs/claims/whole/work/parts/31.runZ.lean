/-! walks by program: the reference's run -/
theorem ite_P {α : Type} {c : Prop} {h : Decidable c} {f g : α} (P : α → Prop) (h1 : P f) (h2 : P g) : P (@ite α c h f g) := by
  cases h with
  | isTrue z => exact h1
  | isFalse z => exact h2
def PA (w : Int32) (c0 c' : Nat → Nat → Int32) : Prop := c' 18 = c0 18 ∧ 0 ≤ (c' 17 w.toNatClampNeg).toInt
theorem PA_sA {w : Int32} {c0 c' : Nat → Nat → Int32} {f : Nat → Int32} {k : Nat} (h : PA w c0 c') (h1 : Nat.beq 17 k = false) (h2 : Nat.beq 18 k = false) : PA w c0 (sA c' f k) := by
  unfold PA
  rw [sA_ne h1, sA_ne h2]
  exact h
theorem PA_set0 {c0 c : Nat → Nat → Int32} {w : Int32} (h : PA w c0 c) (j : Nat → Int32) (q r : Int32) : PA w c0 (aZ_set0 j c q r) := by
  unfold aZ_set0
  exact ite_P (PA w c0) (PA_sA h rfl rfl) (PA_sA h rfl rfl)
theorem PA_reckon0 {c0 c : Nat → Nat → Int32} {w : Int32} (h : PA w c0 c) (j : Nat → Int32) (q r s t : Int32) : PA w c0 (aZ_reckon0 j c q r s t) := by
  unfold aZ_reckon0
  repeat' (first | with_reducible exact PA_set0 h _ _ _ | with_reducible refine ite_P (PA w c0) ?_ ?_)
theorem PA_moved0 {c0 c : Nat → Nat → Int32} {w : Int32} (h : PA w c0 c) (j : Nat → Int32) (q r s t : Int32) : PA w c0 (aZ_moved0 j c q r s t) := by
  unfold aZ_moved0
  repeat' (first | with_reducible exact h | with_reducible exact PA_set0 h _ _ _ | with_reducible exact PA_sA h rfl rfl | with_reducible refine ite_P (PA w c0) ?_ ?_)
theorem PA_serve0 {c0 c : Nat → Nat → Int32} (h : PA 0 c0 c) (j : Nat → Int32) (q : Int32) : PA 0 c0 (aZ_serve0 j c q) := by
  unfold aZ_serve0
  refine ite_P (PA 0 c0) (ite_P (PA 0 c0) (PA_set0 h _ _ _) (PA_set0 h _ _ _)) ?_
  split
  · exact h
  · rename_i h40
    refine ⟨(sA_ne rfl).trans ((sA_ne rfl).trans h.1), ?_⟩
    show 0 ≤ ((c 17 (Int32.toNatClampNeg (0 : Int32))) + 1).toInt
    have h1 := nle h40
    have h2 := h.2
    rw [show (40 : Int32).toInt = 40 from rfl] at h1
    rw [one_i (by omega)]
    omega
theorem PA_step {c0 c : Nat → Nat → Int32} (h : PA 0 c0 c) (j : Nat → Int32) : PA 0 c0 (aZ_step j c) := by
  unfold aZ_step
  repeat' (first | with_reducible exact h | with_reducible exact PA_moved0 h _ _ _ _ _ | with_reducible exact PA_sA (PA_moved0 h _ _ _ _ _) rfl rfl | with_reducible exact PA_sA (PA_set0 h _ _ _) rfl rfl | with_reducible exact PA_sA (PA_reckon0 h _ _ _ _ _) rfl rfl | with_reducible exact PA_sA (PA_serve0 h _ _) rfl rfl | with_reducible exact PA_sA h rfl rfl | with_reducible refine ite_P (PA 0 c0) ?_ ?_)
def PI (j0 j' : Nat → Int32) : Prop := j' 3 = j0 3 ∧ j' 5 = j0 5 ∧ j' 1 = j0 1 ∧ 0 ≤ (j' 6).toInt
theorem PI_serve0 {j0 j : Nat → Int32} (h : PI j0 j) (h5 : (j 5).toInt ≤ 20) (c : Nat → Nat → Int32) (q : Int32) : PI j0 (iZ_serve0 j c q) := by
  unfold iZ_serve0
  refine ite_P (PI j0) ?_ (ite_P (PI j0) h h)
  split
  · exact ⟨h.1, h.2.1, h.2.2.1, h.2.2.2⟩
  · rename_i h6
    have := nle h6
    refine ⟨h.1, h.2.1, h.2.2.1, ?_⟩
    show 0 ≤ (j 6 + 1).toInt
    rw [one_i (by omega)]
    have := h.2.2.2
    omega
theorem PI_step {j0 j : Nat → Int32} (h : PI j0 j) (h5 : (j 5).toInt ≤ 20) (c : Nat → Nat → Int32) : PI j0 (iZ_step j c) := by
  unfold iZ_step
  repeat' (first | with_reducible exact h | with_reducible exact PI_serve0 h h5 _ _ | with_reducible refine ite_P (PI j0) ?_ ?_)
def SI (w : Int32) (j : Nat → Int32) (c : Nat → Nat → Int32) : Prop := (j 3).toInt ≤ 256 ∧ (j 5).toInt ≤ 20 ∧ 0 ≤ (j 6).toInt ∧ 0 ≤ (c 17 w.toNatClampNeg).toInt
theorem SI_hi {w : Int32} {j : Nat → Int32} {c : Nat → Nat → Int32} (h : SI w j c) : ¬ j 5 ≤ j 6 → vp_in (j 6) 20 := fun h1 => by
  have := nle h1
  have := h.2.1
  have := h.2.2.1
  rw [vp_in_iff]
  omega
theorem SI_ho0 {j : Nat → Int32} {c : Nat → Nat → Int32} (h : SI 0 j c) : ¬ (40 : Int32) ≤ c 17 (Int32.toNatClampNeg (0 : Int32)) → vp_in (((40 : Int32) * (0 : Int32)) + c 17 (Int32.toNatClampNeg (0 : Int32))) 80 := fun h1 => by
  have h2 := nle h1
  rw [show (40 : Int32).toInt = 40 from rfl] at h2
  have h3 := h.2.2.2
  have e2 : ((40 : Int32) * (0 : Int32)).toInt = 0 := rfl
  exact in_off (by omega) (by omega) (by omega) (by decide)
theorem SI_ho1 {j : Nat → Int32} {c : Nat → Nat → Int32} (h : SI 1 j c) : ¬ (40 : Int32) ≤ c 17 (Int32.toNatClampNeg (1 : Int32)) → vp_in (((40 : Int32) * (1 : Int32)) + c 17 (Int32.toNatClampNeg (1 : Int32))) 80 := fun h1 => by
  have h2 := nle h1
  rw [show (40 : Int32).toInt = 40 from rfl] at h2
  have h3 := h.2.2.2
  have e2 : ((40 : Int32) * (1 : Int32)).toInt = 40 := rfl
  exact in_off (by omega) (by omega) (by omega) (by decide)
theorem SI_up0 {j : Nat → Int32} {c A1 : Nat → Nat → Int32} {I1 : Nat → Int32} {f : Nat → Int32} (h : SI 0 j c) (hI : I1 = iZ_step j c) (hA : A1 = aZ_step j c) : SI 0 I1 (sA A1 f 18) := by
  have h1 := PI_step (j0 := j) ⟨rfl, rfl, rfl, h.2.2.1⟩ h.2.1 c
  have h2 := PA_step (c0 := c) ⟨rfl, h.2.2.2⟩ j
  rw [← hI] at h1
  rw [← hA] at h2
  exact ⟨by rw [h1.1]; exact h.1, by rw [h1.2.1]; exact h.2.1, h1.2.2.2, h2.2⟩
theorem SI_hs {w : Int32} {j : Nat → Int32} {c : Nat → Nat → Int32} (h : SI w j c) : (j 3).toInt ≤ 256 := h.1
theorem anew0_i2 : ∀ (f : Nat) (j : Nat → Int32) (c : Nat → Nat → Int32) (n : Int32), ((16 : Int32).toInt - n.toInt).toNat < f → iZ_anew0_2 f j c n = sI j 0 6 ∧ aZ_anew0_2 f j c n 17 (Int32.toNatClampNeg (0 : Int32)) = 0 := by
  intro f
  induction f with
  | zero => intro j c n h; exact absurd h (Nat.not_lt_zero _)
  | succ f ih =>
    intro j c n h
    rw [iZ_anew0_2, aZ_anew0_2]
    by_cases hn : (16 : Int32) ≤ n
    · rw [if_pos hn, if_pos hn]; exact ⟨rfl, rfl⟩
    · rw [if_neg hn, if_neg hn]; exact ih _ _ _ (ms_up hn h)
theorem anew0_i1 : ∀ (f : Nat) (j : Nat → Int32) (c : Nat → Nat → Int32) (n : Int32), ((32 : Int32).toInt - n.toInt).toNat < f → iZ_anew0_1 f j c n = sI j 0 6 ∧ aZ_anew0_1 f j c n 17 (Int32.toNatClampNeg (0 : Int32)) = 0 := by
  intro f
  induction f with
  | zero => intro j c n h; exact absurd h (Nat.not_lt_zero _)
  | succ f ih =>
    intro j c n h
    rw [iZ_anew0_1, aZ_anew0_1]
    by_cases hn : (32 : Int32) ≤ n
    · rw [if_pos hn, if_pos hn]; exact anew0_i2 _ _ _ _ (Nat.lt_add_one _)
    · rw [if_neg hn, if_neg hn]; exact ih _ _ _ (ms_up hn h)
theorem anew0_i (j : Nat → Int32) (c : Nat → Nat → Int32) : iZ_anew0 j c = sI j 0 6 ∧ aZ_anew0 j c 17 (Int32.toNatClampNeg (0 : Int32)) = 0 := by
  unfold iZ_anew0 aZ_anew0
  exact anew0_i1 _ _ _ _ (Nat.lt_add_one _)
theorem anew1_i2 : ∀ (f : Nat) (j : Nat → Int32) (c : Nat → Nat → Int32) (n : Int32), ((16 : Int32).toInt - n.toInt).toNat < f → iZ_anew1_2 f j c n = sI j 0 6 ∧ aZ_anew1_2 f j c n 17 (Int32.toNatClampNeg (1 : Int32)) = 0 := by
  intro f
  induction f with
  | zero => intro j c n h; exact absurd h (Nat.not_lt_zero _)
  | succ f ih =>
    intro j c n h
    rw [iZ_anew1_2, aZ_anew1_2]
    by_cases hn : (16 : Int32) ≤ n
    · rw [if_pos hn, if_pos hn]; exact ⟨rfl, rfl⟩
    · rw [if_neg hn, if_neg hn]; exact ih _ _ _ (ms_up hn h)
theorem anew1_i1 : ∀ (f : Nat) (j : Nat → Int32) (c : Nat → Nat → Int32) (n : Int32), ((32 : Int32).toInt - n.toInt).toNat < f → iZ_anew1_1 f j c n = sI j 0 6 ∧ aZ_anew1_1 f j c n 17 (Int32.toNatClampNeg (1 : Int32)) = 0 := by
  intro f
  induction f with
  | zero => intro j c n h; exact absurd h (Nat.not_lt_zero _)
  | succ f ih =>
    intro j c n h
    rw [iZ_anew1_1, aZ_anew1_1]
    by_cases hn : (32 : Int32) ≤ n
    · rw [if_pos hn, if_pos hn]; exact anew1_i2 _ _ _ _ (Nat.lt_add_one _)
    · rw [if_neg hn, if_neg hn]; exact ih _ _ _ (ms_up hn h)
theorem anew1_i (j : Nat → Int32) (c : Nat → Nat → Int32) : iZ_anew1 j c = sI j 0 6 ∧ aZ_anew1 j c 17 (Int32.toNatClampNeg (1 : Int32)) = 0 := by
  unfold iZ_anew1 aZ_anew1
  exact anew1_i1 _ _ _ _ (Nat.lt_add_one _)
theorem set0_17 (j : Nat → Int32) (c : Nat → Nat → Int32) (q r : Int32) : aZ_set0 j c q r 17 = c 17 := by
  unfold aZ_set0
  split <;> exact sA_ne rfl
theorem SI_ent0 {j I1 : Nat → Int32} {c A1 A2 A3 A4 : Nat → Nat → Int32} {f : Nat → Int32} {v2 v3 v4 q2 q3 q4 : Int32} (hs : (j 3).toInt ≤ 256) (h5 : (j 5).toInt ≤ 20) (hI : I1 = iZ_anew0 j c) (hA1 : A1 = aZ_anew0 j c) (hA2 : A2 = aZ_set0 I1 A1 q2 v2) (hA3 : A3 = aZ_set0 I1 A2 q3 v3) (hA4 : A4 = aZ_set0 I1 A3 q4 v4) : SI 0 I1 (sA A4 f 19) := by
  have h1 := anew0_i j c
  rw [← hI, ← hA1] at h1
  refine ⟨?_, ?_, ?_, ?_⟩
  · rw [h1.1]; exact hs
  · rw [h1.1]; exact h5
  · rw [h1.1]; exact Int.le_refl 0
  · rw [sA_ne rfl, hA4, set0_17, hA3, set0_17, hA2, set0_17, h1.2]; exact Int.le_refl 0
theorem run_ms1 {t s x y : Int32} {f : Nat} (hh : x = 0) (h : ¬ t ≤ s) (hm : (if x = 0 then (t.toInt - s.toInt).toNat + 1 else 0) < f + 1) : (if y = 0 then (t.toInt - (s + 1).toInt).toNat + 1 else 0) < f := by
  rw [if_pos hh] at hm
  rw [up_i h]
  have := nle h
  split <;> omega
theorem run_ms2 {t s s2 x y : Int32} {f : Nat} (hh : x = 0) (h : ¬ t ≤ s) (hy : ¬ y = 0) (hm : (if x = 0 then (t.toInt - s.toInt).toNat + 1 else 0) < f + 1) : (if y = 0 then (t.toInt - s2.toInt).toNat + 1 else 0) < f := by
  rw [if_pos hh] at hm
  rw [if_neg hy]
  have := nle h
  omega
noncomputable def rZ_run_l : Nat → (Nat → Int32) → (Nat → Nat → Int32) → Int32 → Int32 → Int32
  | 0, _, _, _, _ => 0
  | f + 1, j, c, t, x => if x = (0 : Int32) then if t ≤ ((c 18) (Int32.toNatClampNeg (0 : Int32))) then x else if (rZ_step j c ) = (0 : Int32) then (rZ_run_l f (iZ_step j c ) (sA (aZ_step j c ) (upd ((aZ_step j c ) 18) (Int32.toNatClampNeg (0 : Int32)) ((((aZ_step j c ) 18) (Int32.toNatClampNeg (0 : Int32))) + (1 : Int32))) 18) t (rZ_step j c )) else if (rZ_step j c ) = (1 : Int32) then (rZ_run_l f (iZ_step j c ) (sA (aZ_step j c ) (upd ((aZ_step j c ) 18) (Int32.toNatClampNeg (0 : Int32)) ((((aZ_step j c ) 18) (Int32.toNatClampNeg (0 : Int32))) + (1 : Int32))) 18) t (rZ_step j c )) else (rZ_run_l f (iZ_step j c ) (sA (aZ_step j c ) (upd ((aZ_step j c ) 18) (Int32.toNatClampNeg (0 : Int32)) (((aZ_step j c ) 18) (Int32.toNatClampNeg (0 : Int32)))) 18) t (rZ_step j c )) else x
noncomputable def iZ_run_l : Nat → (Nat → Int32) → (Nat → Nat → Int32) → Int32 → Int32 → Nat → Int32
  | 0, j, _, _, _ => j
  | f + 1, j, c, t, x => if x = (0 : Int32) then if t ≤ ((c 18) (Int32.toNatClampNeg (0 : Int32))) then j else if (rZ_step j c ) = (0 : Int32) then (iZ_run_l f (iZ_step j c ) (sA (aZ_step j c ) (upd ((aZ_step j c ) 18) (Int32.toNatClampNeg (0 : Int32)) ((((aZ_step j c ) 18) (Int32.toNatClampNeg (0 : Int32))) + (1 : Int32))) 18) t (rZ_step j c )) else if (rZ_step j c ) = (1 : Int32) then (iZ_run_l f (iZ_step j c ) (sA (aZ_step j c ) (upd ((aZ_step j c ) 18) (Int32.toNatClampNeg (0 : Int32)) ((((aZ_step j c ) 18) (Int32.toNatClampNeg (0 : Int32))) + (1 : Int32))) 18) t (rZ_step j c )) else (iZ_run_l f (iZ_step j c ) (sA (aZ_step j c ) (upd ((aZ_step j c ) 18) (Int32.toNatClampNeg (0 : Int32)) (((aZ_step j c ) 18) (Int32.toNatClampNeg (0 : Int32)))) 18) t (rZ_step j c )) else j
noncomputable def aZ_run_l : Nat → (Nat → Int32) → (Nat → Nat → Int32) → Int32 → Int32 → Nat → Nat → Int32
  | 0, _, c, _, _ => c
  | f + 1, j, c, t, x => if x = (0 : Int32) then if t ≤ ((c 18) (Int32.toNatClampNeg (0 : Int32))) then c else if (rZ_step j c ) = (0 : Int32) then (aZ_run_l f (iZ_step j c ) (sA (aZ_step j c ) (upd ((aZ_step j c ) 18) (Int32.toNatClampNeg (0 : Int32)) ((((aZ_step j c ) 18) (Int32.toNatClampNeg (0 : Int32))) + (1 : Int32))) 18) t (rZ_step j c )) else if (rZ_step j c ) = (1 : Int32) then (aZ_run_l f (iZ_step j c ) (sA (aZ_step j c ) (upd ((aZ_step j c ) 18) (Int32.toNatClampNeg (0 : Int32)) ((((aZ_step j c ) 18) (Int32.toNatClampNeg (0 : Int32))) + (1 : Int32))) 18) t (rZ_step j c )) else (aZ_run_l f (iZ_step j c ) (sA (aZ_step j c ) (upd ((aZ_step j c ) 18) (Int32.toNatClampNeg (0 : Int32)) (((aZ_step j c ) 18) (Int32.toNatClampNeg (0 : Int32)))) 18) t (rZ_step j c )) else c
set_option maxHeartbeats 4000000 in
set_option maxRecDepth 100000 in
theorem tZ_run_l (i : Nat → Int32) (a : Nat → Nat → Int32) : ∀ (f : Nat) (j : Nat → Int32) (c : Nat → Nat → Int32) (t x : Int32), (if x = 0 then (Int32.toInt t - Int32.toInt (c 18 (Int32.toNatClampNeg (0 : Int32)))).toNat + 1 else 0) < f → SI 0 j c → am_T sZ_run (some (.int (rZ_run_l f j c t x))) (wX i a (wZ (iZ_run_l f j c t x) (aZ_run_l f j c t x))) 57 [.ref 30, .int t, .int x] [] (wX i a (wZ j c)) 0 0 := by
  intro f
  induction f with
  | zero => intro j c t x hm; exact absurd hm (Nat.not_lt_zero _)
  | succ f ih =>
    intro j c t x hm hp
    refine am_wu_T gdZ_run [57] 400 ?_
    refine am_split (fun h1 => ?_) (fun h1 => ?_)
    · skip
      refine And.intro (by exact vp_lit rfl) ?_
      refine am_split (fun h2 => ?_) (fun h2 => ?_)
      · skip
        exact am_ri (x := x) (S := sZ_run) (congrArg (fun x => some (Value.int x)) (by rw [rZ_run_l]; rw [if_pos h1, if_pos h2])) (am_w2z (i2 := j) (a2 := c) (by rw [iZ_run_l]; rw [if_pos h1, if_pos h2]) (by rw [aZ_run_l]; rw [if_pos h1, if_pos h2]) rfl) rfl rfl
      · skip
        refine am_callz (eZ_step j c  i a  (by first | with_reducible exact SI_hs hp | with_reducible exact SI_hi hp | with_reducible exact SI_ho0 hp) (by first | with_reducible exact SI_hs hp | with_reducible exact SI_hi hp | with_reducible exact SI_ho0 hp) (by first | with_reducible exact SI_hs hp | with_reducible exact SI_hi hp | with_reducible exact SI_ho0 hp)) (fun I1 A1 hI1 hA1 => ?_)
        refine am_split (fun h3 => ?_) (fun h3 => ?_)
        · skip
          refine And.intro (by exact vp_lit rfl) ?_
          refine And.intro (by exact vp_lit rfl) ?_
          exact am_Tc (am_Tw (ih I1 (sA A1 (upd (A1 18) (Int32.toNatClampNeg (0 : Int32)) (((A1 18) (Int32.toNatClampNeg (0 : Int32))) + (1 : Int32))) 18) t (rZ_step j c ) (by first | (show (if rZ_step j c = 0 then (Int32.toInt t - Int32.toInt (A1 18 (Int32.toNatClampNeg (0 : Int32)) + 1)).toNat + 1 else 0) < f; rw [hA1, (PA_step (c0 := c) ⟨rfl, hp.2.2.2⟩ j).1]; exact run_ms1 (by assumption) (by assumption) hm) | exact run_ms2 (by assumption) (by assumption) (by assumption) hm) (SI_up0 hp hI1 hA1)) ⟨Or.inr rfl, Or.inr rfl, Or.inr rfl, trivial⟩) (congrArg (fun x => some (Value.int x)) (by rw [rZ_run_l]; (try rw [← hI1]); (try rw [← hA1]); rw [if_pos h1, if_neg h2, if_pos h3])) (am_w2z (by rw [iZ_run_l]; (try rw [← hI1]); (try rw [← hA1]); rw [if_pos h1, if_neg h2, if_pos h3]) (by rw [aZ_run_l]; (try rw [← hI1]); (try rw [← hA1]); rw [if_pos h1, if_neg h2, if_pos h3]) rfl)
        · skip
          refine am_split (fun h4 => ?_) (fun h4 => ?_)
          · skip
            refine And.intro (by exact vp_lit rfl) ?_
            refine And.intro (by exact vp_lit rfl) ?_
            exact am_Tc (am_Tw (ih I1 (sA A1 (upd (A1 18) (Int32.toNatClampNeg (0 : Int32)) (((A1 18) (Int32.toNatClampNeg (0 : Int32))) + (1 : Int32))) 18) t (rZ_step j c ) (by first | (show (if rZ_step j c = 0 then (Int32.toInt t - Int32.toInt (A1 18 (Int32.toNatClampNeg (0 : Int32)) + 1)).toNat + 1 else 0) < f; rw [hA1, (PA_step (c0 := c) ⟨rfl, hp.2.2.2⟩ j).1]; exact run_ms1 (by assumption) (by assumption) hm) | exact run_ms2 (by assumption) (by assumption) (by assumption) hm) (SI_up0 hp hI1 hA1)) ⟨Or.inr rfl, Or.inr rfl, Or.inr rfl, trivial⟩) (congrArg (fun x => some (Value.int x)) (by rw [rZ_run_l]; (try rw [← hI1]); (try rw [← hA1]); rw [if_pos h1, if_neg h2, if_neg h3, if_pos h4])) (am_w2z (by rw [iZ_run_l]; (try rw [← hI1]); (try rw [← hA1]); rw [if_pos h1, if_neg h2, if_neg h3, if_pos h4]) (by rw [aZ_run_l]; (try rw [← hI1]); (try rw [← hA1]); rw [if_pos h1, if_neg h2, if_neg h3, if_pos h4]) rfl)
          · skip
            refine And.intro (by exact vp_lit rfl) ?_
            refine And.intro (by exact vp_lit rfl) ?_
            exact am_Tc (am_Tw (ih I1 (sA A1 (upd (A1 18) (Int32.toNatClampNeg (0 : Int32)) ((A1 18) (Int32.toNatClampNeg (0 : Int32)))) 18) t (rZ_step j c ) (by first | (show (if rZ_step j c = 0 then (Int32.toInt t - Int32.toInt (A1 18 (Int32.toNatClampNeg (0 : Int32)) + 1)).toNat + 1 else 0) < f; rw [hA1, (PA_step (c0 := c) ⟨rfl, hp.2.2.2⟩ j).1]; exact run_ms1 (by assumption) (by assumption) hm) | exact run_ms2 (by assumption) (by assumption) (by assumption) hm) (SI_up0 hp hI1 hA1)) ⟨Or.inr rfl, Or.inr rfl, Or.inr rfl, trivial⟩) (congrArg (fun x => some (Value.int x)) (by rw [rZ_run_l]; (try rw [← hI1]); (try rw [← hA1]); rw [if_pos h1, if_neg h2, if_neg h3, if_neg h4])) (am_w2z (by rw [iZ_run_l]; (try rw [← hI1]); (try rw [← hA1]); rw [if_pos h1, if_neg h2, if_neg h3, if_neg h4]) (by rw [aZ_run_l]; (try rw [← hI1]); (try rw [← hA1]); rw [if_pos h1, if_neg h2, if_neg h3, if_neg h4]) rfl)
    · skip
      exact am_ri (x := x) (S := sZ_run) (congrArg (fun x => some (Value.int x)) (by rw [rZ_run_l]; rw [if_neg h1])) (am_w2z (i2 := j) (a2 := c) (by rw [iZ_run_l]; rw [if_neg h1]) (by rw [aZ_run_l]; rw [if_neg h1]) rfl) rfl rfl
noncomputable def rZ_run (j : Nat → Int32) (c : Nat → Nat → Int32) (p : Int32) : Int32 := if (rZ_outside p (0 : Int32) (2000 : Int32)) = (0 : Int32) then (rZ_run_l ((if (0 : Int32) = 0 then (Int32.toInt p - Int32.toInt ((sA (aZ_set0 (iZ_anew0 j c ) (aZ_set0 (iZ_anew0 j c ) (aZ_set0 (iZ_anew0 j c ) (aZ_anew0 j c ) (27 : Int32) (240 : Int32)) (28 : Int32) (4096 : Int32)) (29 : Int32) (60 : Int32)) (upd ((aZ_set0 (iZ_anew0 j c ) (aZ_set0 (iZ_anew0 j c ) (aZ_set0 (iZ_anew0 j c ) (aZ_anew0 j c ) (27 : Int32) (240 : Int32)) (28 : Int32) (4096 : Int32)) (29 : Int32) (60 : Int32)) 19) (Int32.toNatClampNeg (0 : Int32)) (48 : Int32)) 19) 18 (Int32.toNatClampNeg (0 : Int32)))).toNat + 1 else 0) + 1) (iZ_anew0 j c ) (sA (aZ_set0 (iZ_anew0 j c ) (aZ_set0 (iZ_anew0 j c ) (aZ_set0 (iZ_anew0 j c ) (aZ_anew0 j c ) (27 : Int32) (240 : Int32)) (28 : Int32) (4096 : Int32)) (29 : Int32) (60 : Int32)) (upd ((aZ_set0 (iZ_anew0 j c ) (aZ_set0 (iZ_anew0 j c ) (aZ_set0 (iZ_anew0 j c ) (aZ_anew0 j c ) (27 : Int32) (240 : Int32)) (28 : Int32) (4096 : Int32)) (29 : Int32) (60 : Int32)) 19) (Int32.toNatClampNeg (0 : Int32)) (48 : Int32)) 19) p (0 : Int32)) else (-1 : Int32)
noncomputable def iZ_run (j : Nat → Int32) (c : Nat → Nat → Int32) (p : Int32) : Nat → Int32 := if (rZ_outside p (0 : Int32) (2000 : Int32)) = (0 : Int32) then (iZ_run_l ((if (0 : Int32) = 0 then (Int32.toInt p - Int32.toInt ((sA (aZ_set0 (iZ_anew0 j c ) (aZ_set0 (iZ_anew0 j c ) (aZ_set0 (iZ_anew0 j c ) (aZ_anew0 j c ) (27 : Int32) (240 : Int32)) (28 : Int32) (4096 : Int32)) (29 : Int32) (60 : Int32)) (upd ((aZ_set0 (iZ_anew0 j c ) (aZ_set0 (iZ_anew0 j c ) (aZ_set0 (iZ_anew0 j c ) (aZ_anew0 j c ) (27 : Int32) (240 : Int32)) (28 : Int32) (4096 : Int32)) (29 : Int32) (60 : Int32)) 19) (Int32.toNatClampNeg (0 : Int32)) (48 : Int32)) 19) 18 (Int32.toNatClampNeg (0 : Int32)))).toNat + 1 else 0) + 1) (iZ_anew0 j c ) (sA (aZ_set0 (iZ_anew0 j c ) (aZ_set0 (iZ_anew0 j c ) (aZ_set0 (iZ_anew0 j c ) (aZ_anew0 j c ) (27 : Int32) (240 : Int32)) (28 : Int32) (4096 : Int32)) (29 : Int32) (60 : Int32)) (upd ((aZ_set0 (iZ_anew0 j c ) (aZ_set0 (iZ_anew0 j c ) (aZ_set0 (iZ_anew0 j c ) (aZ_anew0 j c ) (27 : Int32) (240 : Int32)) (28 : Int32) (4096 : Int32)) (29 : Int32) (60 : Int32)) 19) (Int32.toNatClampNeg (0 : Int32)) (48 : Int32)) 19) p (0 : Int32)) else j
noncomputable def aZ_run (j : Nat → Int32) (c : Nat → Nat → Int32) (p : Int32) : Nat → Nat → Int32 := if (rZ_outside p (0 : Int32) (2000 : Int32)) = (0 : Int32) then (aZ_run_l ((if (0 : Int32) = 0 then (Int32.toInt p - Int32.toInt ((sA (aZ_set0 (iZ_anew0 j c ) (aZ_set0 (iZ_anew0 j c ) (aZ_set0 (iZ_anew0 j c ) (aZ_anew0 j c ) (27 : Int32) (240 : Int32)) (28 : Int32) (4096 : Int32)) (29 : Int32) (60 : Int32)) (upd ((aZ_set0 (iZ_anew0 j c ) (aZ_set0 (iZ_anew0 j c ) (aZ_set0 (iZ_anew0 j c ) (aZ_anew0 j c ) (27 : Int32) (240 : Int32)) (28 : Int32) (4096 : Int32)) (29 : Int32) (60 : Int32)) 19) (Int32.toNatClampNeg (0 : Int32)) (48 : Int32)) 19) 18 (Int32.toNatClampNeg (0 : Int32)))).toNat + 1 else 0) + 1) (iZ_anew0 j c ) (sA (aZ_set0 (iZ_anew0 j c ) (aZ_set0 (iZ_anew0 j c ) (aZ_set0 (iZ_anew0 j c ) (aZ_anew0 j c ) (27 : Int32) (240 : Int32)) (28 : Int32) (4096 : Int32)) (29 : Int32) (60 : Int32)) (upd ((aZ_set0 (iZ_anew0 j c ) (aZ_set0 (iZ_anew0 j c ) (aZ_set0 (iZ_anew0 j c ) (aZ_anew0 j c ) (27 : Int32) (240 : Int32)) (28 : Int32) (4096 : Int32)) (29 : Int32) (60 : Int32)) 19) (Int32.toNatClampNeg (0 : Int32)) (48 : Int32)) 19) p (0 : Int32)) else c
set_option maxHeartbeats 4000000 in
set_option maxRecDepth 100000 in
theorem eZ_run (j : Nat → Int32) (c : Nat → Nat → Int32) (p : Int32) (i : Nat → Int32) (a : Nat → Nat → Int32) (hs : (j 3).toInt ≤ 256) (h5 : (j 5).toInt ≤ 20) : am_Ev sZ_run [.ref 30, .int p] (wX i a (wZ j c)) (some (.int (rZ_run j c p))) (wX i a (wZ (iZ_run j c p) (aZ_run j c p))) := by
  refine am_Ev_of cwZ_run rfl rfl rfl (am_wt_T gdZ_run [57] 400 ?_)
  refine am_call (eZ_outside p (0 : Int32) (2000 : Int32) _) ?_
  refine am_split (fun h1 => ?_) (fun h1 => ?_)
  · skip
    refine am_callz (eZ_anew0 j c  i a) (fun I1 A1 hI1 hA1 => ?_)
    refine am_callza (eZ_set0 I1 A1 (27 : Int32) (240 : Int32) i a  (by exact ⟨by decide, by decide⟩)) (fun A2 hA2 => ?_)
    refine am_callza (eZ_set0 I1 A2 (28 : Int32) (4096 : Int32) i a  (by exact ⟨by decide, by decide⟩)) (fun A3 hA3 => ?_)
    refine am_callza (eZ_set0 I1 A3 (29 : Int32) (60 : Int32) i a  (by exact ⟨by decide, by decide⟩)) (fun A4 hA4 => ?_)
    refine And.intro (by exact vp_lit rfl) ?_
    exact am_Tc (am_Tw (tZ_run_l i a ((if (0 : Int32) = 0 then (Int32.toInt p - Int32.toInt ((sA A4 (upd (A4 19) (Int32.toNatClampNeg (0 : Int32)) (48 : Int32)) 19) 18 (Int32.toNatClampNeg (0 : Int32)))).toNat + 1 else 0) + 1) I1 (sA A4 (upd (A4 19) (Int32.toNatClampNeg (0 : Int32)) (48 : Int32)) 19) p (0 : Int32) (Nat.lt_add_one _) (SI_ent0 hs h5 hI1 hA1 hA2 hA3 hA4)) ⟨Or.inr rfl, Or.inr rfl, Or.inr rfl, trivial⟩) (congrArg (fun x => some (Value.int x)) (by unfold rZ_run; (try rw [← hI1]); (try rw [← hA1]); (try rw [← hA2]); (try rw [← hA3]); (try rw [← hA4]); rw [if_pos h1])) (am_w2z (by unfold iZ_run; (try rw [← hI1]); (try rw [← hA1]); (try rw [← hA2]); (try rw [← hA3]); (try rw [← hA4]); rw [if_pos h1]) (by unfold aZ_run; (try rw [← hI1]); (try rw [← hA1]); (try rw [← hA2]); (try rw [← hA3]); (try rw [← hA4]); rw [if_pos h1]) rfl)
  · skip
    exact am_ri (x := (-1 : Int32)) (S := sZ_run) (congrArg (fun x => some (Value.int x)) (by unfold rZ_run; rw [if_neg h1])) (am_w2z (i2 := j) (a2 := c) (by unfold iZ_run; rw [if_neg h1]) (by unfold aZ_run; rw [if_neg h1]) rfl) rfl rfl

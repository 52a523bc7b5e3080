/-! walks by program: the reference's build -/
noncomputable def rZ_build_4 : Nat → (Nat → Int32) → (Nat → Nat → Int32) → Int32 → Int32 → Int32
  | 0, _, _, _, _ => 0
  | f + 1, j, c, t, n => if (j 0) ≤ n then t else (rZ_build_4 f (iZ_write (iZ_pad j c ((c 9) (Int32.toNatClampNeg n))) (aZ_pad j c ((c 9) (Int32.toNatClampNeg n))) n) (sA (sA (sA (sA (aZ_write (iZ_pad j c ((c 9) (Int32.toNatClampNeg n))) (aZ_pad j c ((c 9) (Int32.toNatClampNeg n))) n) (upd ((aZ_write (iZ_pad j c ((c 9) (Int32.toNatClampNeg n))) (aZ_pad j c ((c 9) (Int32.toNatClampNeg n))) n) 4) (Int32.toNatClampNeg n) (((aZ_write (iZ_pad j c ((c 9) (Int32.toNatClampNeg n))) (aZ_pad j c ((c 9) (Int32.toNatClampNeg n))) n) 0) (Int32.toNatClampNeg n))) 4) (upd ((aZ_write (iZ_pad j c ((c 9) (Int32.toNatClampNeg n))) (aZ_pad j c ((c 9) (Int32.toNatClampNeg n))) n) 5) (Int32.toNatClampNeg n) (((aZ_write (iZ_pad j c ((c 9) (Int32.toNatClampNeg n))) (aZ_pad j c ((c 9) (Int32.toNatClampNeg n))) n) 1) (Int32.toNatClampNeg n))) 5) (upd ((aZ_write (iZ_pad j c ((c 9) (Int32.toNatClampNeg n))) (aZ_pad j c ((c 9) (Int32.toNatClampNeg n))) n) 6) (Int32.toNatClampNeg n) (((aZ_write (iZ_pad j c ((c 9) (Int32.toNatClampNeg n))) (aZ_pad j c ((c 9) (Int32.toNatClampNeg n))) n) 2) (Int32.toNatClampNeg n))) 6) (upd ((aZ_write (iZ_pad j c ((c 9) (Int32.toNatClampNeg n))) (aZ_pad j c ((c 9) (Int32.toNatClampNeg n))) n) 7) (Int32.toNatClampNeg n) (((aZ_write (iZ_pad j c ((c 9) (Int32.toNatClampNeg n))) (aZ_pad j c ((c 9) (Int32.toNatClampNeg n))) n) 3) (Int32.toNatClampNeg n))) 7) t (n + (1 : Int32)))
noncomputable def iZ_build_4 : Nat → (Nat → Int32) → (Nat → Nat → Int32) → Int32 → Int32 → Nat → Int32
  | 0, j, _, _, _ => j
  | f + 1, j, c, t, n => if (j 0) ≤ n then (sI (sI (sI (iZ_pad j c t) t 3) ((iZ_pad j c t) 0) 1) (1 : Int32) 2) else (iZ_build_4 f (iZ_write (iZ_pad j c ((c 9) (Int32.toNatClampNeg n))) (aZ_pad j c ((c 9) (Int32.toNatClampNeg n))) n) (sA (sA (sA (sA (aZ_write (iZ_pad j c ((c 9) (Int32.toNatClampNeg n))) (aZ_pad j c ((c 9) (Int32.toNatClampNeg n))) n) (upd ((aZ_write (iZ_pad j c ((c 9) (Int32.toNatClampNeg n))) (aZ_pad j c ((c 9) (Int32.toNatClampNeg n))) n) 4) (Int32.toNatClampNeg n) (((aZ_write (iZ_pad j c ((c 9) (Int32.toNatClampNeg n))) (aZ_pad j c ((c 9) (Int32.toNatClampNeg n))) n) 0) (Int32.toNatClampNeg n))) 4) (upd ((aZ_write (iZ_pad j c ((c 9) (Int32.toNatClampNeg n))) (aZ_pad j c ((c 9) (Int32.toNatClampNeg n))) n) 5) (Int32.toNatClampNeg n) (((aZ_write (iZ_pad j c ((c 9) (Int32.toNatClampNeg n))) (aZ_pad j c ((c 9) (Int32.toNatClampNeg n))) n) 1) (Int32.toNatClampNeg n))) 5) (upd ((aZ_write (iZ_pad j c ((c 9) (Int32.toNatClampNeg n))) (aZ_pad j c ((c 9) (Int32.toNatClampNeg n))) n) 6) (Int32.toNatClampNeg n) (((aZ_write (iZ_pad j c ((c 9) (Int32.toNatClampNeg n))) (aZ_pad j c ((c 9) (Int32.toNatClampNeg n))) n) 2) (Int32.toNatClampNeg n))) 6) (upd ((aZ_write (iZ_pad j c ((c 9) (Int32.toNatClampNeg n))) (aZ_pad j c ((c 9) (Int32.toNatClampNeg n))) n) 7) (Int32.toNatClampNeg n) (((aZ_write (iZ_pad j c ((c 9) (Int32.toNatClampNeg n))) (aZ_pad j c ((c 9) (Int32.toNatClampNeg n))) n) 3) (Int32.toNatClampNeg n))) 7) t (n + (1 : Int32)))
noncomputable def aZ_build_4 : Nat → (Nat → Int32) → (Nat → Nat → Int32) → Int32 → Int32 → Nat → Nat → Int32
  | 0, _, c, _, _ => c
  | f + 1, j, c, t, n => if (j 0) ≤ n then (aZ_pad j c t) else (aZ_build_4 f (iZ_write (iZ_pad j c ((c 9) (Int32.toNatClampNeg n))) (aZ_pad j c ((c 9) (Int32.toNatClampNeg n))) n) (sA (sA (sA (sA (aZ_write (iZ_pad j c ((c 9) (Int32.toNatClampNeg n))) (aZ_pad j c ((c 9) (Int32.toNatClampNeg n))) n) (upd ((aZ_write (iZ_pad j c ((c 9) (Int32.toNatClampNeg n))) (aZ_pad j c ((c 9) (Int32.toNatClampNeg n))) n) 4) (Int32.toNatClampNeg n) (((aZ_write (iZ_pad j c ((c 9) (Int32.toNatClampNeg n))) (aZ_pad j c ((c 9) (Int32.toNatClampNeg n))) n) 0) (Int32.toNatClampNeg n))) 4) (upd ((aZ_write (iZ_pad j c ((c 9) (Int32.toNatClampNeg n))) (aZ_pad j c ((c 9) (Int32.toNatClampNeg n))) n) 5) (Int32.toNatClampNeg n) (((aZ_write (iZ_pad j c ((c 9) (Int32.toNatClampNeg n))) (aZ_pad j c ((c 9) (Int32.toNatClampNeg n))) n) 1) (Int32.toNatClampNeg n))) 5) (upd ((aZ_write (iZ_pad j c ((c 9) (Int32.toNatClampNeg n))) (aZ_pad j c ((c 9) (Int32.toNatClampNeg n))) n) 6) (Int32.toNatClampNeg n) (((aZ_write (iZ_pad j c ((c 9) (Int32.toNatClampNeg n))) (aZ_pad j c ((c 9) (Int32.toNatClampNeg n))) n) 2) (Int32.toNatClampNeg n))) 6) (upd ((aZ_write (iZ_pad j c ((c 9) (Int32.toNatClampNeg n))) (aZ_pad j c ((c 9) (Int32.toNatClampNeg n))) n) 7) (Int32.toNatClampNeg n) (((aZ_write (iZ_pad j c ((c 9) (Int32.toNatClampNeg n))) (aZ_pad j c ((c 9) (Int32.toNatClampNeg n))) n) 3) (Int32.toNatClampNeg n))) 7) t (n + (1 : Int32)))
set_option maxHeartbeats 4000000 in
set_option maxRecDepth 100000 in
theorem tZ_build_4 (i : Nat → Int32) (a : Nat → Nat → Int32) : ∀ (f : Nat) (j : Nat → Int32) (c : Nat → Nat → Int32) (t n : Int32), (Int32.toInt (j 0) - Int32.toInt n).toNat < f → ZB j c t n → am_T sZ_build (some (.int (rZ_build_4 f j c t n))) (wX i a (wZ (iZ_build_4 f j c t n) (aZ_build_4 f j c t n))) 102 [.ref 30, .int t, .int n] [] (wX i a (wZ j c)) 0 0 := by
  intro f
  induction f with
  | zero => intro j c t n hm; exact absurd hm (Nat.not_lt_zero _)
  | succ f ih =>
    intro j c t n hm hp
    refine am_wu_T gdZ_build [102] 400 ?_
    refine am_split (fun h1 => ?_) (fun h1 => ?_)
    · skip
      refine am_callz (eZ_pad j c t i a (ZB_ee hp).1 (ZB_ee hp).2) (fun I1 A1 hI1 hA1 => ?_)
      exact am_ri (x := t) (S := sZ_build) (congrArg (fun x => some (Value.int x)) (by rw [rZ_build_4]; (try rw [← hI1]); (try rw [← hA1]); rw [if_pos h1])) (am_w2z (i2 := (sI (sI (sI I1 t 3) (I1 0) 1) (1 : Int32) 2)) (a2 := A1) (by rw [iZ_build_4]; (try rw [← hI1]); (try rw [← hA1]); rw [if_pos h1]) (by rw [aZ_build_4]; (try rw [← hI1]); (try rw [← hA1]); rw [if_pos h1]) rfl) rfl rfl
    · skip
      refine And.intro (by first | with_reducible exact ZB_in hp (by assumption) | with_reducible exact ZB_in21 hp (by assumption)) ?_
      refine am_callz (eZ_pad j c ((c 9) (Int32.toNatClampNeg n)) i a (ZB_pp hp (by assumption)).1 (ZB_pp hp (by assumption)).2) (fun I2 A2 hI2 hA2 => ?_)
      refine am_callz (eZ_write I2 A2 n i a (ZB_in hp (by assumption)) (ZB_wok hp (by assumption) hI2 hA2).1 (ZB_wok hp (by assumption) hI2 hA2).2) (fun I3 A3 hI3 hA3 => ?_)
      refine And.intro (by first | with_reducible exact ZB_in hp (by assumption) | with_reducible exact ZB_in21 hp (by assumption)) ?_
      refine And.intro (by first | with_reducible exact ZB_in hp (by assumption) | with_reducible exact ZB_in21 hp (by assumption)) ?_
      refine And.intro (by first | with_reducible exact ZB_in hp (by assumption) | with_reducible exact ZB_in21 hp (by assumption)) ?_
      refine And.intro (by first | with_reducible exact ZB_in hp (by assumption) | with_reducible exact ZB_in21 hp (by assumption)) ?_
      refine And.intro (by first | with_reducible exact ZB_in hp (by assumption) | with_reducible exact ZB_in21 hp (by assumption)) ?_
      refine And.intro (by first | with_reducible exact ZB_in hp (by assumption) | with_reducible exact ZB_in21 hp (by assumption)) ?_
      refine And.intro (by first | with_reducible exact ZB_in hp (by assumption) | with_reducible exact ZB_in21 hp (by assumption)) ?_
      refine And.intro (by first | with_reducible exact ZB_in hp (by assumption) | with_reducible exact ZB_in21 hp (by assumption)) ?_
      exact am_Tc (am_Tw (ih I3 (sA (sA (sA (sA A3 (upd (A3 4) (Int32.toNatClampNeg n) ((A3 0) (Int32.toNatClampNeg n))) 4) (upd (A3 5) (Int32.toNatClampNeg n) ((A3 1) (Int32.toNatClampNeg n))) 5) (upd (A3 6) (Int32.toNatClampNeg n) ((A3 2) (Int32.toNatClampNeg n))) 6) (upd (A3 7) (Int32.toNatClampNeg n) ((A3 3) (Int32.toNatClampNeg n))) 7) t (n + (1 : Int32)) (ZB_ms hp (by assumption) hI2 hA2 hI3 hA3 hm) (ZB_up hp (by assumption) hI2 hA2 hI3 hA3 _ _ _ _)) ⟨Or.inr rfl, Or.inr rfl, Or.inr rfl, trivial⟩) (congrArg (fun x => some (Value.int x)) (by rw [rZ_build_4]; (try rw [← hI2]); (try rw [← hA2]); (try rw [← hI3]); (try rw [← hA3]); rw [if_neg h1])) (am_w2z (by rw [iZ_build_4]; (try rw [← hI2]); (try rw [← hA2]); (try rw [← hI3]); (try rw [← hA3]); rw [if_neg h1]) (by rw [aZ_build_4]; (try rw [← hI2]); (try rw [← hA2]); (try rw [← hI3]); (try rw [← hA3]); rw [if_neg h1]) rfl)
noncomputable def rZ_build_3 : Nat → (Nat → Int32) → (Nat → Nat → Int32) → Int32 → Int32 → Int32
  | 0, _, _, _, _ => 0
  | f + 1, j, c, t, n => if (48 : Int32) ≤ n then (rZ_build_4 ((Int32.toInt ((sI j (48 : Int32) 4) 0) - Int32.toInt (0 : Int32)).toNat + 1) (sI j (48 : Int32) 4) c t (0 : Int32)) else (rZ_build_3 f j (sA c (upd (c 11) (Int32.toNatClampNeg n) (0 : Int32)) 11) t (n + (1 : Int32)))
noncomputable def iZ_build_3 : Nat → (Nat → Int32) → (Nat → Nat → Int32) → Int32 → Int32 → Nat → Int32
  | 0, j, _, _, _ => j
  | f + 1, j, c, t, n => if (48 : Int32) ≤ n then (iZ_build_4 ((Int32.toInt ((sI j (48 : Int32) 4) 0) - Int32.toInt (0 : Int32)).toNat + 1) (sI j (48 : Int32) 4) c t (0 : Int32)) else (iZ_build_3 f j (sA c (upd (c 11) (Int32.toNatClampNeg n) (0 : Int32)) 11) t (n + (1 : Int32)))
noncomputable def aZ_build_3 : Nat → (Nat → Int32) → (Nat → Nat → Int32) → Int32 → Int32 → Nat → Nat → Int32
  | 0, _, c, _, _ => c
  | f + 1, j, c, t, n => if (48 : Int32) ≤ n then (aZ_build_4 ((Int32.toInt ((sI j (48 : Int32) 4) 0) - Int32.toInt (0 : Int32)).toNat + 1) (sI j (48 : Int32) 4) c t (0 : Int32)) else (aZ_build_3 f j (sA c (upd (c 11) (Int32.toNatClampNeg n) (0 : Int32)) 11) t (n + (1 : Int32)))
set_option maxHeartbeats 4000000 in
set_option maxRecDepth 100000 in
theorem tZ_build_3 (i : Nat → Int32) (a : Nat → Nat → Int32) : ∀ (f : Nat) (j : Nat → Int32) (c : Nat → Nat → Int32) (t n : Int32), ((48 : Int32).toInt - Int32.toInt n).toNat < f → 0 ≤ n.toInt ∧ ZC j c t → am_T sZ_build (some (.int (rZ_build_3 f j c t n))) (wX i a (wZ (iZ_build_3 f j c t n) (aZ_build_3 f j c t n))) 75 [.ref 30, .int t, .int n] [] (wX i a (wZ j c)) 0 0 := by
  intro f
  induction f with
  | zero => intro j c t n hm; exact absurd hm (Nat.not_lt_zero _)
  | succ f ih =>
    intro j c t n hm hp
    refine am_wu_T gdZ_build [75, 102] 400 ?_
    refine am_split (fun h1 => ?_) (fun h1 => ?_)
    · skip
      exact am_Tc (am_Tw (tZ_build_4 i a ((Int32.toInt ((sI j (48 : Int32) 4) 0) - Int32.toInt (0 : Int32)).toNat + 1) (sI j (48 : Int32) 4) c t (0 : Int32) (Nat.lt_add_one _) (ZB_0 hp.2)) ⟨Or.inr rfl, Or.inr rfl, Or.inr rfl, trivial⟩) (by unfold rZ_build_3; simp only [if_pos h1]; try rfl) (by unfold iZ_build_3 aZ_build_3; simp only [if_pos h1]; try rfl)
    · skip
      refine And.intro (by exact vp_nn (M := 48) hp.1 (by assumption) (by decide)) ?_
      exact am_Tc (am_Tw (ih j (sA c (upd (c 11) (Int32.toNatClampNeg n) (0 : Int32)) 11) t (n + (1 : Int32)) (ms_up (M := 48) (by assumption) hm) ⟨nn_up (M := 48) hp.1 (by assumption), hp.2⟩) ⟨Or.inr rfl, Or.inr rfl, Or.inr rfl, trivial⟩) (by simp only [rZ_build_3, if_neg h1]) (by simp only [iZ_build_3, aZ_build_3, if_neg h1])
noncomputable def rZ_build_2 : Nat → (Nat → Int32) → (Nat → Nat → Int32) → Int32 → Int32 → Int32
  | 0, _, _, _, _ => 0
  | f + 1, j, c, t, n => if (j 0) < n then (rZ_build_3 (((48 : Int32).toInt - Int32.toInt (0 : Int32)).toNat + 1) j c t (0 : Int32)) else (rZ_build_2 f j (sA c (upd (c 8) (Int32.toNatClampNeg n) ((c 10) (Int32.toNatClampNeg n))) 8) t (n + (1 : Int32)))
noncomputable def iZ_build_2 : Nat → (Nat → Int32) → (Nat → Nat → Int32) → Int32 → Int32 → Nat → Int32
  | 0, j, _, _, _ => j
  | f + 1, j, c, t, n => if (j 0) < n then (iZ_build_3 (((48 : Int32).toInt - Int32.toInt (0 : Int32)).toNat + 1) j c t (0 : Int32)) else (iZ_build_2 f j (sA c (upd (c 8) (Int32.toNatClampNeg n) ((c 10) (Int32.toNatClampNeg n))) 8) t (n + (1 : Int32)))
noncomputable def aZ_build_2 : Nat → (Nat → Int32) → (Nat → Nat → Int32) → Int32 → Int32 → Nat → Nat → Int32
  | 0, _, c, _, _ => c
  | f + 1, j, c, t, n => if (j 0) < n then (aZ_build_3 (((48 : Int32).toInt - Int32.toInt (0 : Int32)).toNat + 1) j c t (0 : Int32)) else (aZ_build_2 f j (sA c (upd (c 8) (Int32.toNatClampNeg n) ((c 10) (Int32.toNatClampNeg n))) 8) t (n + (1 : Int32)))
set_option maxHeartbeats 4000000 in
set_option maxRecDepth 100000 in
theorem tZ_build_2 (i : Nat → Int32) (a : Nat → Nat → Int32) : ∀ (f : Nat) (j : Nat → Int32) (c : Nat → Nat → Int32) (t n : Int32), (Int32.toInt (j 0) + 1 - Int32.toInt n).toNat < f → 0 ≤ n.toInt ∧ ZC j c t → am_T sZ_build (some (.int (rZ_build_2 f j c t n))) (wX i a (wZ (iZ_build_2 f j c t n) (aZ_build_2 f j c t n))) 47 [.ref 30, .int t, .int n] [] (wX i a (wZ j c)) 0 0 := by
  intro f
  induction f with
  | zero => intro j c t n hm; exact absurd hm (Nat.not_lt_zero _)
  | succ f ih =>
    intro j c t n hm hp
    refine am_wu_T gdZ_build [47, 75, 102] 400 ?_
    refine am_split (fun h1 => ?_) (fun h1 => ?_)
    · skip
      exact am_Tc (am_Tw (tZ_build_3 i a (((48 : Int32).toInt - Int32.toInt (0 : Int32)).toNat + 1) j c t (0 : Int32) (Nat.lt_add_one _) ⟨by decide, hp.2⟩) ⟨Or.inr rfl, Or.inr rfl, Or.inr rfl, trivial⟩) (by unfold rZ_build_2; simp only [if_pos h1]; try rfl) (by unfold iZ_build_2 aZ_build_2; simp only [if_pos h1]; try rfl)
    · skip
      refine And.intro (by exact in_ule hp.1 (by assumption) hp.2.1.2.1) ?_
      refine And.intro (by exact in_ule hp.1 (by assumption) hp.2.1.2.1) ?_
      exact am_Tc (am_Tw (ih j (sA c (upd (c 8) (Int32.toNatClampNeg n) ((c 10) (Int32.toNatClampNeg n))) 8) t (n + (1 : Int32)) (ms_ule (by assumption) (by have := hp.2.1.2.1; omega) hm) ⟨nn_ule hp.1 (by assumption) hp.2.1.2.1, hp.2⟩) ⟨Or.inr rfl, Or.inr rfl, Or.inr rfl, trivial⟩) (by simp only [rZ_build_2, if_neg h1]) (by simp only [iZ_build_2, aZ_build_2, if_neg h1])
noncomputable def rZ_build_1 : Nat → (Nat → Int32) → (Nat → Nat → Int32) → Int32 → Int32
  | 0, _, _, _ => 0
  | f + 1, j, c, n => if (j 0) ≤ n then if (rZ_layOut j c ) ≤ (256 : Int32) then (rZ_build_2 ((Int32.toInt (j 0) + 1 - Int32.toInt (0 : Int32)).toNat + 1) j (aZ_layOut j c ) (rZ_layOut j c ) (0 : Int32)) else (-2 : Int32) else if (rZ_targetOf j c n) ≤ (j 0) then (rZ_build_1 f j c (n + (1 : Int32))) else (-1 : Int32)
noncomputable def iZ_build_1 : Nat → (Nat → Int32) → (Nat → Nat → Int32) → Int32 → Nat → Int32
  | 0, j, _, _ => j
  | f + 1, j, c, n => if (j 0) ≤ n then if (rZ_layOut j c ) ≤ (256 : Int32) then (iZ_build_2 ((Int32.toInt (j 0) + 1 - Int32.toInt (0 : Int32)).toNat + 1) j (aZ_layOut j c ) (rZ_layOut j c ) (0 : Int32)) else j else if (rZ_targetOf j c n) ≤ (j 0) then (iZ_build_1 f j c (n + (1 : Int32))) else j
noncomputable def aZ_build_1 : Nat → (Nat → Int32) → (Nat → Nat → Int32) → Int32 → Nat → Nat → Int32
  | 0, _, c, _ => c
  | f + 1, j, c, n => if (j 0) ≤ n then if (rZ_layOut j c ) ≤ (256 : Int32) then (aZ_build_2 ((Int32.toInt (j 0) + 1 - Int32.toInt (0 : Int32)).toNat + 1) j (aZ_layOut j c ) (rZ_layOut j c ) (0 : Int32)) else (aZ_layOut j c ) else if (rZ_targetOf j c n) ≤ (j 0) then (aZ_build_1 f j c (n + (1 : Int32))) else c
set_option maxHeartbeats 4000000 in
set_option maxRecDepth 100000 in
theorem tZ_build_1 (i : Nat → Int32) (a : Nat → Nat → Int32) : ∀ (f : Nat) (j : Nat → Int32) (c : Nat → Nat → Int32) (n : Int32), (Int32.toInt (j 0) - Int32.toInt n).toNat < f → 0 ≤ n.toInt ∧ HZ j c → am_T sZ_build (some (.int (rZ_build_1 f j c n))) (wX i a (wZ (iZ_build_1 f j c n) (aZ_build_1 f j c n))) 2 [.ref 30, .int n, .retAddr 0] [] (wX i a (wZ j c)) 0 0 := by
  intro f
  induction f with
  | zero => intro j c n hm; exact absurd hm (Nat.not_lt_zero _)
  | succ f ih =>
    intro j c n hm hp
    refine am_wu_T gdZ_build [2, 47, 75, 102] 400 ?_
    refine am_split (fun h1 => ?_) (fun h1 => ?_)
    · skip
      refine am_callza (eZ_layOut j c  i a hp.2.2.1) (fun A1 hA1 => ?_)
      refine am_split (fun h2 => ?_) (fun h2 => ?_)
      · skip
        exact am_Tc (am_Tw (tZ_build_2 i a ((Int32.toInt (j 0) + 1 - Int32.toInt (0 : Int32)).toNat + 1) j A1 (rZ_layOut j c ) (0 : Int32) (Nat.lt_add_one _) ⟨by decide, ZC_lay hp.2 hA1 (by assumption)⟩) ⟨Or.inr rfl, Or.inr rfl, Or.inr rfl, trivial⟩) (congrArg (fun x => some (Value.int x)) (by unfold rZ_build_1; (try rw [← hA1]); rw [if_pos h1, if_pos h2])) (am_w2z (by unfold iZ_build_1; (try rw [← hA1]); rw [if_pos h1, if_pos h2]) (by unfold aZ_build_1; (try rw [← hA1]); rw [if_pos h1, if_pos h2]) rfl)
      · skip
        exact am_ri (x := (-2 : Int32)) (S := sZ_build) (congrArg (fun x => some (Value.int x)) (by rw [rZ_build_1]; (try rw [← hA1]); rw [if_pos h1, if_neg h2])) (am_w2z (i2 := j) (a2 := A1) (by rw [iZ_build_1]; (try rw [← hA1]); rw [if_pos h1, if_neg h2]) (by rw [aZ_build_1]; (try rw [← hA1]); rw [if_pos h1, if_neg h2]) rfl) rfl rfl
    · skip
      refine am_call (eZ_targetOf j c n i a (vp_nn hp.1 (by assumption) hp.2.2.1)) ?_
      refine am_split (fun h3 => ?_) (fun h3 => ?_)
      · skip
        exact am_Tc (am_Tw (ih j c (n + (1 : Int32)) (ms_up (by assumption) hm) ⟨nn_up hp.1 (by assumption), hp.2⟩) ⟨Or.inr rfl, Or.inr rfl, Or.inl rfl, trivial⟩) (congrArg (fun x => some (Value.int x)) (by rw [rZ_build_1]; rw [if_neg h1, if_pos h3])) (am_w2z (by rw [iZ_build_1]; rw [if_neg h1, if_pos h3]) (by rw [aZ_build_1]; rw [if_neg h1, if_pos h3]) rfl)
      · skip
        exact am_ri (x := (-1 : Int32)) (S := sZ_build) (congrArg (fun x => some (Value.int x)) (by rw [rZ_build_1]; rw [if_neg h1, if_neg h3])) (am_w2z (i2 := j) (a2 := c) (by rw [iZ_build_1]; rw [if_neg h1, if_neg h3]) (by rw [aZ_build_1]; rw [if_neg h1, if_neg h3]) rfl) rfl rfl
noncomputable def rZ_build (j : Nat → Int32) (c : Nat → Nat → Int32) : Int32 := (rZ_build_1 ((Int32.toInt (j 0) - Int32.toInt (0 : Int32)).toNat + 1) j c (0 : Int32))
noncomputable def iZ_build (j : Nat → Int32) (c : Nat → Nat → Int32) : Nat → Int32 := (iZ_build_1 ((Int32.toInt (j 0) - Int32.toInt (0 : Int32)).toNat + 1) j c (0 : Int32))
noncomputable def aZ_build (j : Nat → Int32) (c : Nat → Nat → Int32) : Nat → Nat → Int32 := (aZ_build_1 ((Int32.toInt (j 0) - Int32.toInt (0 : Int32)).toNat + 1) j c (0 : Int32))
set_option maxHeartbeats 4000000 in
set_option maxRecDepth 100000 in
theorem eZ_build (j : Nat → Int32) (c : Nat → Nat → Int32) (i : Nat → Int32) (a : Nat → Nat → Int32) (hz : HZ j c) : am_Ev sZ_build [.ref 30] (wX i a (wZ j c)) (some (.int (rZ_build j c ))) (wX i a (wZ (iZ_build j c ) (aZ_build j c ))) := by
  refine am_Ev_of cwZ_build rfl rfl rfl (am_wt_T gdZ_build [2, 47, 75, 102] 400 ?_)
  exact am_Tc (am_Tw (tZ_build_1 i a ((Int32.toInt (j 0) - Int32.toInt (0 : Int32)).toNat + 1) j c (0 : Int32) (Nat.lt_add_one _) ⟨by decide, hz⟩) ⟨Or.inr rfl, Or.inr rfl, Or.inl rfl, trivial⟩) (by unfold rZ_build; rfl) (by unfold iZ_build aZ_build; rfl)

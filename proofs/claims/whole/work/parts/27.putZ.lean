/-! walks by program: the reference's writing -/
theorem put_in {a n k : Int32} (hp : 0 ≤ a.toInt ∧ a.toInt + (n.toInt - k.toInt) ≤ 256) (h : ¬ n ≤ k) : vp_in a 256 := by
  have := nle h
  rw [vp_in_iff]
  omega
theorem one_i {a : Int32} (h : a.toInt < 2147483647) : (a + 1).toInt = a.toInt + 1 := by
  have := i32_lo a
  rw [add_i (by rw [show (1 : Int32).toInt = 1 from rfl]; omega) (by rw [show (1 : Int32).toInt = 1 from rfl]; omega), show (1 : Int32).toInt = 1 from rfl]
theorem put_pre {a n k : Int32} (hp : 0 ≤ a.toInt ∧ a.toInt + (n.toInt - k.toInt) ≤ 256) (h : ¬ n ≤ k) : 0 ≤ (a + 1).toInt ∧ (a + 1).toInt + (n.toInt - (k + 1).toInt) ≤ 256 := by
  have h1 := nle h
  rw [one_i (a := a) (by omega), up_i h]
  omega
noncomputable def iZ_put_l : Nat → (Nat → Int32) → (Nat → Nat → Int32) → Int32 → Int32 → Int32 → Nat → Int32
  | 0, j, _, _, _, _ => j
  | f + 1, j, c, b, n, k => if n ≤ k then j else (iZ_put_l f (sI j ((j 4) + (1 : Int32)) 4) (sA c (upd (c 11) (Int32.toNatClampNeg (j 4)) ((b >>> (((8 : Int32) * k) &&& 31)) &&& (255 : Int32))) 11) b n (k + (1 : Int32)))
noncomputable def aZ_put_l : Nat → (Nat → Int32) → (Nat → Nat → Int32) → Int32 → Int32 → Int32 → Nat → Nat → Int32
  | 0, _, c, _, _, _ => c
  | f + 1, j, c, b, n, k => if n ≤ k then c else (aZ_put_l f (sI j ((j 4) + (1 : Int32)) 4) (sA c (upd (c 11) (Int32.toNatClampNeg (j 4)) ((b >>> (((8 : Int32) * k) &&& 31)) &&& (255 : Int32))) 11) b n (k + (1 : Int32)))
set_option maxHeartbeats 4000000 in
set_option maxRecDepth 100000 in
theorem tZ_put_l (i : Nat → Int32) (a : Nat → Nat → Int32) : ∀ (f : Nat) (j : Nat → Int32) (c : Nat → Nat → Int32) (b n k : Int32), (Int32.toInt n - Int32.toInt k).toNat < f → 0 ≤ (j 4).toInt ∧ (j 4).toInt + (n.toInt - k.toInt) ≤ 256 → am_T sZ_put none (wX i a (wZ (iZ_put_l f j c b n k) (aZ_put_l f j c b n k))) 2 [.ref 30, .int b, .int n, .int k] [] (wX i a (wZ j c)) 0 0 := by
  intro f
  induction f with
  | zero => intro j c b n k hm; exact absurd hm (Nat.not_lt_zero _)
  | succ f ih =>
    intro j c b n k hm hp
    refine am_wu_T gdZ_put [2] 400 ?_
    refine am_split (fun h1 => ?_) (fun h1 => ?_)
    · skip
      exact am_rv (S := sZ_put) (by simp only [iZ_put_l, aZ_put_l, if_pos h1]; try rfl) rfl
    · skip
      refine And.intro (by exact put_in hp (by assumption)) ?_
      exact am_Tc (am_Tw (ih (sI j ((j 4) + (1 : Int32)) 4) (sA c (upd (c 11) (Int32.toNatClampNeg (j 4)) ((b >>> (((8 : Int32) * k) &&& 31)) &&& (255 : Int32))) 11) b n (k + (1 : Int32)) (ms_up (by assumption) hm) (put_pre hp (by assumption))) ⟨Or.inr rfl, Or.inr rfl, Or.inr rfl, Or.inr rfl, trivial⟩) rfl (by simp only [iZ_put_l, aZ_put_l, if_neg h1])
noncomputable def iZ_put (j : Nat → Int32) (c : Nat → Nat → Int32) (p q : Int32) : Nat → Int32 := (iZ_put_l ((Int32.toInt q - Int32.toInt (0 : Int32)).toNat + 1) j c p q (0 : Int32))
noncomputable def aZ_put (j : Nat → Int32) (c : Nat → Nat → Int32) (p q : Int32) : Nat → Nat → Int32 := (aZ_put_l ((Int32.toInt q - Int32.toInt (0 : Int32)).toNat + 1) j c p q (0 : Int32))
set_option maxHeartbeats 4000000 in
set_option maxRecDepth 100000 in
theorem eZ_put (j : Nat → Int32) (c : Nat → Nat → Int32) (p q : Int32) (i : Nat → Int32) (a : Nat → Nat → Int32) (hp : 0 ≤ (j 4).toInt ∧ (j 4).toInt + q.toInt ≤ 256) : am_Ev sZ_put [.ref 30, .int p, .int q] (wX i a (wZ j c)) none (wX i a (wZ (iZ_put j c p q) (aZ_put j c p q))) := by
  refine am_Ev_of cwZ_put rfl rfl rfl (am_wt_T gdZ_put [2] 400 ?_)
  exact am_Tc (am_Tw (tZ_put_l i a ((Int32.toInt q - Int32.toInt (0 : Int32)).toNat + 1) j c p q (0 : Int32) (Nat.lt_add_one _) ⟨hp.1, by rw [show (0 : Int32).toInt = 0 from rfl]; omega⟩) ⟨Or.inr rfl, Or.inr rfl, Or.inr rfl, Or.inr rfl, trivial⟩) rfl (by unfold iZ_put aZ_put; rfl)
theorem put4_at (j : Nat → Int32) (c : Nat → Nat → Int32) (b : Int32) : iZ_put j c b 4 4 = j 4 + 1 + 1 + 1 + 1 := rfl
theorem put2_at (j : Nat → Int32) (c : Nat → Nat → Int32) (b : Int32) : iZ_put j c b 2 4 = j 4 + 1 + 1 := rfl
theorem add4_i {a : Int32} (h : a.toInt ≤ 1000) : (a + 1 + 1 + 1 + 1).toInt = a.toInt + 4 := by
  have e1 := one_i (a := a) (by omega)
  have e2 := one_i (a := a + 1) (by omega)
  have e3 := one_i (a := a + 1 + 1) (by omega)
  have e4 := one_i (a := a + 1 + 1 + 1) (by omega)
  omega
theorem add2_i {a : Int32} (h : a.toInt ≤ 1000) : (a + 1 + 1).toInt = a.toInt + 2 := by
  have e1 := one_i (a := a) (by omega)
  have e2 := one_i (a := a + 1) (by omega)
  omega
def padok (a t : Int32) : Prop := 0 ≤ a.toInt ∧ t.toInt ≤ 256 ∧ ∃ m : Nat, t.toInt = a.toInt + 4 * m
theorem padok_put {a t : Int32} (h : padok a t) (h1 : ¬ t ≤ a) : 0 ≤ a.toInt ∧ a.toInt + (4 : Int32).toInt ≤ 256 := by
  obtain ⟨h2, h3, m, h4⟩ := h
  have := nle h1
  rw [show (4 : Int32).toInt = 4 from rfl]
  omega
theorem padok_up {a t : Int32} (h : padok a t) (h1 : ¬ t ≤ a) : padok (a + 1 + 1 + 1 + 1) t := by
  obtain ⟨h2, h3, m, h4⟩ := h
  have := nle h1
  refine ⟨?_, h3, m - 1, ?_⟩
  · rw [add4_i (by omega)]; omega
  · rw [add4_i (by omega)]; omega
theorem padok_ms {a t : Int32} {f : Nat} (h : padok a t) (h1 : ¬ t ≤ a) (hm : (t.toInt - a.toInt).toNat < f + 1) : (t.toInt - (a + 1 + 1 + 1 + 1).toInt).toNat < f := by
  obtain ⟨h2, h3, m, h4⟩ := h
  have := nle h1
  rw [add4_i (by omega)]
  omega
noncomputable def iZ_pad_l : Nat → (Nat → Int32) → (Nat → Nat → Int32) → Int32 → Nat → Int32
  | 0, j, _, _ => j
  | f + 1, j, c, t => if t ≤ (j 4) then j else (iZ_pad_l f (iZ_put j c (rZ_made (4 : Int32) (0 : Int32) (0 : Int32) (0 : Int32)) (4 : Int32)) (aZ_put j c (rZ_made (4 : Int32) (0 : Int32) (0 : Int32) (0 : Int32)) (4 : Int32)) t)
noncomputable def aZ_pad_l : Nat → (Nat → Int32) → (Nat → Nat → Int32) → Int32 → Nat → Nat → Int32
  | 0, _, c, _ => c
  | f + 1, j, c, t => if t ≤ (j 4) then c else (aZ_pad_l f (iZ_put j c (rZ_made (4 : Int32) (0 : Int32) (0 : Int32) (0 : Int32)) (4 : Int32)) (aZ_put j c (rZ_made (4 : Int32) (0 : Int32) (0 : Int32) (0 : Int32)) (4 : Int32)) t)
set_option maxHeartbeats 4000000 in
set_option maxRecDepth 100000 in
theorem tZ_pad_l (i : Nat → Int32) (a : Nat → Nat → Int32) : ∀ (f : Nat) (j : Nat → Int32) (c : Nat → Nat → Int32) (t : Int32), (Int32.toInt t - Int32.toInt (j 4)).toNat < f → padok (j 4) t → am_T sZ_pad none (wX i a (wZ (iZ_pad_l f j c t) (aZ_pad_l f j c t))) 24 [.ref 30, .int t] [] (wX i a (wZ j c)) 0 0 := by
  intro f
  induction f with
  | zero => intro j c t hm; exact absurd hm (Nat.not_lt_zero _)
  | succ f ih =>
    intro j c t hm hp
    refine am_wu_T gdZ_pad [24] 400 ?_
    refine am_split (fun h1 => ?_) (fun h1 => ?_)
    · skip
      exact am_rv (S := sZ_pad) (am_w2z (i2 := j) (a2 := c) (by rw [iZ_pad_l]; rw [if_pos h1]) (by rw [aZ_pad_l]; rw [if_pos h1]) rfl) rfl
    · skip
      refine am_call (eZ_made (4 : Int32) (0 : Int32) (0 : Int32) (0 : Int32) _) ?_
      refine am_callz (eZ_put j c (rZ_made (4 : Int32) (0 : Int32) (0 : Int32) (0 : Int32)) (4 : Int32) i a  (by exact padok_put hp (by assumption))) (fun I1 A1 hI1 hA1 => ?_)
      exact am_Tc (am_Tw (ih I1 A1 t (by rw [hI1, put4_at]; exact padok_ms hp (by assumption) hm) (by rw [hI1, put4_at]; exact padok_up hp (by assumption))) ⟨Or.inr rfl, Or.inr rfl, trivial⟩) rfl (am_w2z (by rw [iZ_pad_l]; (try rw [← hI1]); (try rw [← hA1]); rw [if_neg h1]) (by rw [aZ_pad_l]; (try rw [← hI1]); (try rw [← hA1]); rw [if_neg h1]) rfl)
noncomputable def iZ_pad (j : Nat → Int32) (c : Nat → Nat → Int32) (p : Int32) : Nat → Int32 := if ((p - (j 4)) - (p - (j 4)) / (4 : Int32) * (4 : Int32)) = (0 : Int32) then (iZ_pad_l ((Int32.toInt p - Int32.toInt (j 4)).toNat + 1) j c p) else (iZ_pad_l ((Int32.toInt p - Int32.toInt ((iZ_put j c (rZ_made (13 : Int32) (0 : Int32) (0 : Int32) (0 : Int32)) (2 : Int32)) 4)).toNat + 1) (iZ_put j c (rZ_made (13 : Int32) (0 : Int32) (0 : Int32) (0 : Int32)) (2 : Int32)) (aZ_put j c (rZ_made (13 : Int32) (0 : Int32) (0 : Int32) (0 : Int32)) (2 : Int32)) p)
noncomputable def aZ_pad (j : Nat → Int32) (c : Nat → Nat → Int32) (p : Int32) : Nat → Nat → Int32 := if ((p - (j 4)) - (p - (j 4)) / (4 : Int32) * (4 : Int32)) = (0 : Int32) then (aZ_pad_l ((Int32.toInt p - Int32.toInt (j 4)).toNat + 1) j c p) else (aZ_pad_l ((Int32.toInt p - Int32.toInt ((iZ_put j c (rZ_made (13 : Int32) (0 : Int32) (0 : Int32) (0 : Int32)) (2 : Int32)) 4)).toNat + 1) (iZ_put j c (rZ_made (13 : Int32) (0 : Int32) (0 : Int32) (0 : Int32)) (2 : Int32)) (aZ_put j c (rZ_made (13 : Int32) (0 : Int32) (0 : Int32) (0 : Int32)) (2 : Int32)) p)
set_option maxHeartbeats 4000000 in
set_option maxRecDepth 100000 in
theorem eZ_pad (j : Nat → Int32) (c : Nat → Nat → Int32) (p : Int32) (i : Nat → Int32) (a : Nat → Nat → Int32) (he : ((p - j 4) - (p - j 4) / (4 : Int32) * (4 : Int32)) = 0 → padok (j 4) p) (ho : ¬ ((p - j 4) - (p - j 4) / (4 : Int32) * (4 : Int32)) = 0 → (0 ≤ (j 4).toInt ∧ (j 4).toInt + (2 : Int32).toInt ≤ 256) ∧ padok (j 4 + 1 + 1) p) : am_Ev sZ_pad [.ref 30, .int p] (wX i a (wZ j c)) none (wX i a (wZ (iZ_pad j c p) (aZ_pad j c p))) := by
  refine am_Ev_of cwZ_pad rfl rfl rfl (am_wt_T gdZ_pad [24] 400 ?_)
  refine am_split (fun h1 => ?_) (fun h1 => ?_)
  · skip
    exact am_Tc (am_Tw (tZ_pad_l i a ((Int32.toInt p - Int32.toInt (j 4)).toNat + 1) j c p (Nat.lt_add_one _) (by first | exact he (by assumption) | (rw [hI1, put2_at]; exact (ho (by assumption)).2))) ⟨Or.inr rfl, Or.inr rfl, trivial⟩) rfl (am_w2z (by unfold iZ_pad; rw [if_pos h1]) (by unfold aZ_pad; rw [if_pos h1]) rfl)
  · skip
    refine am_call (eZ_made (13 : Int32) (0 : Int32) (0 : Int32) (0 : Int32) _) ?_
    refine am_callz (eZ_put j c (rZ_made (13 : Int32) (0 : Int32) (0 : Int32) (0 : Int32)) (2 : Int32) i a  (by exact (ho (by assumption)).1)) (fun I1 A1 hI1 hA1 => ?_)
    exact am_Tc (am_Tw (tZ_pad_l i a ((Int32.toInt p - Int32.toInt (I1 4)).toNat + 1) I1 A1 p (Nat.lt_add_one _) (by first | exact he (by assumption) | (rw [hI1, put2_at]; exact (ho (by assumption)).2))) ⟨Or.inr rfl, Or.inr rfl, trivial⟩) rfl (am_w2z (by unfold iZ_pad; (try rw [← hI1]); (try rw [← hA1]); rw [if_neg h1]) (by unfold aZ_pad; (try rw [← hI1]); (try rw [← hA1]); rw [if_neg h1]) rfl)
noncomputable def rZ_length_l : Nat → (Nat → Int32) → (Nat → Nat → Int32) → Int32 → Int32 → Int32
  | 0, _, _, _, _ => 0
  | f + 1, j, c, n, k => if n ≤ k then (1 : Int32) else (rZ_length_l f j (sA c (upd (c 11) (Int32.toNatClampNeg k) (0 : Int32)) 11) n (k + (1 : Int32)))
noncomputable def iZ_length_l : Nat → (Nat → Int32) → (Nat → Nat → Int32) → Int32 → Int32 → Nat → Int32
  | 0, j, _, _, _ => j
  | f + 1, j, c, n, k => if n ≤ k then (sI j n 3) else (iZ_length_l f j (sA c (upd (c 11) (Int32.toNatClampNeg k) (0 : Int32)) 11) n (k + (1 : Int32)))
noncomputable def aZ_length_l : Nat → (Nat → Int32) → (Nat → Nat → Int32) → Int32 → Int32 → Nat → Nat → Int32
  | 0, _, c, _, _ => c
  | f + 1, j, c, n, k => if n ≤ k then c else (aZ_length_l f j (sA c (upd (c 11) (Int32.toNatClampNeg k) (0 : Int32)) 11) n (k + (1 : Int32)))
set_option maxHeartbeats 4000000 in
set_option maxRecDepth 100000 in
theorem tZ_length_l (i : Nat → Int32) (a : Nat → Nat → Int32) : ∀ (f : Nat) (j : Nat → Int32) (c : Nat → Nat → Int32) (n k : Int32), (Int32.toInt n - Int32.toInt k).toNat < f → 0 ≤ k.toInt ∧ n.toInt ≤ 256 → am_T sZ_length (some (.int (rZ_length_l f j c n k))) (wX i a (wZ (iZ_length_l f j c n k) (aZ_length_l f j c n k))) 18 [.ref 30, .int n, .int k] [] (wX i a (wZ j c)) 0 0 := by
  intro f
  induction f with
  | zero => intro j c n k hm; exact absurd hm (Nat.not_lt_zero _)
  | succ f ih =>
    intro j c n k hm hp
    refine am_wu_T gdZ_length [18] 400 ?_
    refine am_split (fun h1 => ?_) (fun h1 => ?_)
    · skip
      exact am_ri (S := sZ_length) (by simp only [rZ_length_l, if_pos h1]; try rfl) (by simp only [iZ_length_l, aZ_length_l, if_pos h1]; try rfl) rfl rfl
    · skip
      refine And.intro (by exact vp_nn hp.1 (by assumption) hp.2) ?_
      exact am_Tc (am_Tw (ih j (sA c (upd (c 11) (Int32.toNatClampNeg k) (0 : Int32)) 11) n (k + (1 : Int32)) (ms_up (by assumption) hm) ⟨nn_up hp.1 (by assumption), hp.2⟩) ⟨Or.inr rfl, Or.inr rfl, Or.inr rfl, trivial⟩) (by simp only [rZ_length_l, if_neg h1]) (by simp only [iZ_length_l, aZ_length_l, if_neg h1])
theorem zoZ_length_l : ∀ (f : Nat) (j : Nat → Int32) (c : Nat → Nat → Int32) (n k : Int32), rZ_length_l f j c n k = 0 ∨ rZ_length_l f j c n k = 1 := by
  intro f
  induction f with
  | zero => intro j c n k; exact Or.inl rfl
  | succ f ih =>
    intro j c n k
    simp only [rZ_length_l]
    repeat' (first | with_reducible refine zo_ite ?_ ?_ | with_reducible exact ih .. | with_reducible exact Or.inl rfl | with_reducible exact Or.inr rfl)
noncomputable def rZ_length (j : Nat → Int32) (c : Nat → Nat → Int32) (p : Int32) : Int32 := if (rZ_outside p (0 : Int32) (256 : Int32)) = (0 : Int32) then (rZ_length_l ((Int32.toInt p - Int32.toInt (j 3)).toNat + 1) j c p (j 3)) else (0 : Int32)
noncomputable def iZ_length (j : Nat → Int32) (c : Nat → Nat → Int32) (p : Int32) : Nat → Int32 := if (rZ_outside p (0 : Int32) (256 : Int32)) = (0 : Int32) then (iZ_length_l ((Int32.toInt p - Int32.toInt (j 3)).toNat + 1) j c p (j 3)) else j
noncomputable def aZ_length (j : Nat → Int32) (c : Nat → Nat → Int32) (p : Int32) : Nat → Nat → Int32 := if (rZ_outside p (0 : Int32) (256 : Int32)) = (0 : Int32) then (aZ_length_l ((Int32.toInt p - Int32.toInt (j 3)).toNat + 1) j c p (j 3)) else c
set_option maxHeartbeats 4000000 in
set_option maxRecDepth 100000 in
theorem eZ_length (j : Nat → Int32) (c : Nat → Nat → Int32) (p : Int32) (i : Nat → Int32) (a : Nat → Nat → Int32) (hz : 0 ≤ (j 3).toInt) : am_Ev sZ_length [.ref 30, .int p] (wX i a (wZ j c)) (some (.int (rZ_length j c p))) (wX i a (wZ (iZ_length j c p) (aZ_length j c p))) := by
  refine am_Ev_of cwZ_length rfl rfl rfl (am_wt_T gdZ_length [18] 400 ?_)
  refine am_call (eZ_outside p (0 : Int32) (256 : Int32) _) ?_
  refine am_split (fun h1 => ?_) (fun h1 => ?_)
  · skip
    exact am_Tc (am_Tw (tZ_length_l i a ((Int32.toInt p - Int32.toInt (j 3)).toNat + 1) j c p (j 3) (Nat.lt_add_one _) ⟨hz, (outside_i.mp (by assumption)).2⟩) ⟨Or.inr rfl, Or.inr rfl, Or.inr rfl, trivial⟩) (by unfold rZ_length; simp only [if_pos h1]; try rfl) (by unfold iZ_length aZ_length; simp only [if_pos h1]; try rfl)
  · skip
    exact am_ri (S := sZ_length) (by unfold rZ_length; simp only [if_neg h1]; try rfl) (by unfold iZ_length aZ_length; simp only [if_neg h1]; try rfl) rfl rfl
theorem zoZ_length (j : Nat → Int32) (c : Nat → Nat → Int32) (p : Int32) : rZ_length j c p = 0 ∨ rZ_length j c p = 1 := by
  unfold rZ_length
  repeat' (first | with_reducible refine zo_ite ?_ ?_ | with_reducible exact zoZ_length_l .. | with_reducible exact Or.inl rfl | with_reducible exact Or.inr rfl)

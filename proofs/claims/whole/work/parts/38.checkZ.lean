/-! walks by program: the reference's check -/
theorem ms_q {q P : Int32} {f : Nat} (h : ¬ q < P) (hP : 0 ≤ P.toInt) (hm : (q.toInt + 1).toNat < f + 1) : ((q + (-1)).toInt + 1).toNat < f := by
  have h1 := nlt h
  have h2 := i32_hi q
  have em : (-1 : Int32).toInt = -1 := rfl
  rw [add_i (x := q) (y := -1) (by omega) (by omega)]
  omega
theorem q_dn {q P : Int32} (h : ¬ q < P) (hP : 0 ≤ P.toInt) (hq : q.toInt < 256) : (q + (-1)).toInt < 256 := by
  have h1 := nlt h
  have em : (-1 : Int32).toInt = -1 := rfl
  rw [add_i (x := q) (y := -1) (by omega) (by omega)]
  omega
theorem in_q {q P : Int32} (h : ¬ q < P) (hP : 0 ≤ P.toInt) (hq : q.toInt < 256) : vp_in q 256 := by
  have h1 := nlt h
  rw [vp_in_iff]
  omega
theorem nn_q {q P : Int32} (h : ¬ q < P) (hP : 0 ≤ P.toInt) : 0 ≤ q.toInt := by have := nlt h; omega
theorem nn_q2 {q P : Int32} (h : P ≤ q) (hP : 0 ≤ P.toInt) : 0 ≤ q.toInt := by rw [le_i] at h; omega
theorem q1000 {q : Int32} (h : q.toInt < 256) : q.toInt ≤ 1000 := by omega
theorem mul16_i {p : Int32} (h0 : 0 ≤ p.toInt) (h1 : p.toInt ≤ 1000) : (p / 16 * 16).toInt = p.toInt / 16 * 16 := by
  have e16 : (16 : Int32).toInt = 16 := rfl
  have hd : (p / 16).toInt = p.toInt / 16 := by rw [div_i p 16 (by decide), e16, Int.tdiv_eq_ediv_of_nonneg h0]
  rw [Int32.toInt_mul, hd, e16]
  exact Int.bmod_eq_of_le (by omega) (by omega)
theorem p16 {p : Int32} (h0 : 0 ≤ p.toInt) (h1 : p.toInt ≤ 1000) : 0 ≤ (p / 16 * 16).toInt := by rw [mul16_i h0 h1]; omega
theorem sub1_i {p : Int32} (h0 : 0 ≤ p.toInt) : (p - 1).toInt = p.toInt - 1 := by
  have e1 : (1 : Int32).toInt = 1 := rfl
  have := i32_hi p
  rw [sub_i (by omega) (by omega), e1]
noncomputable def rZ_isBefore_l : Nat → (Nat → Int32) → (Nat → Nat → Int32) → Int32 → Int32 → Int32 → Int32 → Int32
  | 0, _, _, _, _, _, _ => 0
  | f + 1, j, c, p, b, x, q => if q < ((p / (16 : Int32)) * (16 : Int32)) then if ((p / (16 : Int32)) * (16 : Int32)) ≤ q then if x = (0 : Int32) then if ((rZ_bitsAt j c q) &&& (-1 : Int32)) = (b &&& (-1 : Int32)) then (1 : Int32) else (0 : Int32) else if ((rZ_bitsAt j c q) &&& (-1015809 : Int32)) = (b &&& (-1015809 : Int32)) then (1 : Int32) else (0 : Int32) else (0 : Int32) else if ((c 12) (Int32.toNatClampNeg q)) = (0 : Int32) then (rZ_isBefore_l f j c p b x (q + (-1 : Int32))) else if ((p / (16 : Int32)) * (16 : Int32)) ≤ q then if x = (0 : Int32) then if ((rZ_bitsAt j c q) &&& (-1 : Int32)) = (b &&& (-1 : Int32)) then (1 : Int32) else (0 : Int32) else if ((rZ_bitsAt j c q) &&& (-1015809 : Int32)) = (b &&& (-1015809 : Int32)) then (1 : Int32) else (0 : Int32) else (0 : Int32)
set_option maxHeartbeats 4000000 in
set_option maxRecDepth 100000 in
theorem tZ_isBefore_l (i : Nat → Int32) (a : Nat → Nat → Int32) : ∀ (f : Nat) (j : Nat → Int32) (c : Nat → Nat → Int32) (p b x q : Int32), (Int32.toInt q + 1).toNat < f → 0 ≤ (p / 16 * 16).toInt ∧ q.toInt < 256 ∧ (j 3).toInt ≤ 256 → am_T sZ_isBefore (some (.int (rZ_isBefore_l f j c p b x q))) (wX i a (wZ j c)) 5 [.ref 30, .int p, .int b, .int x, .int q, .retAddr 0] [] (wX i a (wZ j c)) 0 0 := by
  intro f
  induction f with
  | zero => intro j c p b x q hm; exact absurd hm (Nat.not_lt_zero _)
  | succ f ih =>
    intro j c p b x q hm hp
    refine am_wu_T gdZ_isBefore [5] 400 ?_
    refine am_split (fun h1 => ?_) (fun h1 => ?_)
    · skip
      refine am_split (fun h2 => ?_) (fun h2 => ?_)
      · skip
        refine am_split (fun h3 => ?_) (fun h3 => ?_)
        · skip
          refine am_call (eZ_bitsAt j c q i a  (by first | with_reducible exact hp.2.2 | with_reducible exact nn_q (by assumption) hp.1 | with_reducible exact nn_q2 (by assumption) hp.1 | with_reducible exact q1000 hp.2.1) (by first | with_reducible exact hp.2.2 | with_reducible exact nn_q (by assumption) hp.1 | with_reducible exact nn_q2 (by assumption) hp.1 | with_reducible exact q1000 hp.2.1) (by first | with_reducible exact hp.2.2 | with_reducible exact nn_q (by assumption) hp.1 | with_reducible exact nn_q2 (by assumption) hp.1 | with_reducible exact q1000 hp.2.1)) ?_
          refine am_split (fun h4 => ?_) (fun h4 => ?_)
          · skip
            exact am_ri (S := sZ_isBefore) (by simp only [rZ_isBefore_l, if_pos h1, if_pos h2, if_pos h3, if_pos h4]; try rfl) rfl rfl rfl
          · skip
            exact am_ri (S := sZ_isBefore) (by simp only [rZ_isBefore_l, if_pos h1, if_pos h2, if_pos h3, if_neg h4]; try rfl) rfl rfl rfl
        · skip
          refine am_call (eZ_bitsAt j c q i a  (by first | with_reducible exact hp.2.2 | with_reducible exact nn_q (by assumption) hp.1 | with_reducible exact nn_q2 (by assumption) hp.1 | with_reducible exact q1000 hp.2.1) (by first | with_reducible exact hp.2.2 | with_reducible exact nn_q (by assumption) hp.1 | with_reducible exact nn_q2 (by assumption) hp.1 | with_reducible exact q1000 hp.2.1) (by first | with_reducible exact hp.2.2 | with_reducible exact nn_q (by assumption) hp.1 | with_reducible exact nn_q2 (by assumption) hp.1 | with_reducible exact q1000 hp.2.1)) ?_
          refine am_split (fun h5 => ?_) (fun h5 => ?_)
          · skip
            exact am_ri (S := sZ_isBefore) (by simp only [rZ_isBefore_l, if_pos h1, if_pos h2, if_neg h3, if_pos h5]; try rfl) rfl rfl rfl
          · skip
            exact am_ri (S := sZ_isBefore) (by simp only [rZ_isBefore_l, if_pos h1, if_pos h2, if_neg h3, if_neg h5]; try rfl) rfl rfl rfl
      · skip
        exact am_ri (S := sZ_isBefore) (by simp only [rZ_isBefore_l, if_pos h1, if_neg h2]; try rfl) rfl rfl rfl
    · skip
      refine And.intro (by exact in_q (by assumption) hp.1 hp.2.1) ?_
      refine am_split (fun h6 => ?_) (fun h6 => ?_)
      · skip
        exact am_Tc (am_Tw (ih j c p b x (q + (-1 : Int32)) (ms_q (by assumption) hp.1 hm) ⟨hp.1, q_dn (by assumption) hp.1 hp.2.1, hp.2.2⟩) ⟨Or.inr rfl, Or.inr rfl, Or.inr rfl, Or.inr rfl, Or.inr rfl, Or.inl rfl, trivial⟩) (by simp only [rZ_isBefore_l, if_neg h1, if_pos h6]) rfl
      · skip
        refine am_split (fun h7 => ?_) (fun h7 => ?_)
        · skip
          refine am_split (fun h8 => ?_) (fun h8 => ?_)
          · skip
            refine am_call (eZ_bitsAt j c q i a  (by first | with_reducible exact hp.2.2 | with_reducible exact nn_q (by assumption) hp.1 | with_reducible exact nn_q2 (by assumption) hp.1 | with_reducible exact q1000 hp.2.1) (by first | with_reducible exact hp.2.2 | with_reducible exact nn_q (by assumption) hp.1 | with_reducible exact nn_q2 (by assumption) hp.1 | with_reducible exact q1000 hp.2.1) (by first | with_reducible exact hp.2.2 | with_reducible exact nn_q (by assumption) hp.1 | with_reducible exact nn_q2 (by assumption) hp.1 | with_reducible exact q1000 hp.2.1)) ?_
            refine am_split (fun h9 => ?_) (fun h9 => ?_)
            · skip
              exact am_ri (S := sZ_isBefore) (by simp only [rZ_isBefore_l, if_neg h1, if_neg h6, if_pos h7, if_pos h8, if_pos h9]; try rfl) rfl rfl rfl
            · skip
              exact am_ri (S := sZ_isBefore) (by simp only [rZ_isBefore_l, if_neg h1, if_neg h6, if_pos h7, if_pos h8, if_neg h9]; try rfl) rfl rfl rfl
          · skip
            refine am_call (eZ_bitsAt j c q i a  (by first | with_reducible exact hp.2.2 | with_reducible exact nn_q (by assumption) hp.1 | with_reducible exact nn_q2 (by assumption) hp.1 | with_reducible exact q1000 hp.2.1) (by first | with_reducible exact hp.2.2 | with_reducible exact nn_q (by assumption) hp.1 | with_reducible exact nn_q2 (by assumption) hp.1 | with_reducible exact q1000 hp.2.1) (by first | with_reducible exact hp.2.2 | with_reducible exact nn_q (by assumption) hp.1 | with_reducible exact nn_q2 (by assumption) hp.1 | with_reducible exact q1000 hp.2.1)) ?_
            refine am_split (fun h10 => ?_) (fun h10 => ?_)
            · skip
              exact am_ri (S := sZ_isBefore) (by simp only [rZ_isBefore_l, if_neg h1, if_neg h6, if_pos h7, if_neg h8, if_pos h10]; try rfl) rfl rfl rfl
            · skip
              exact am_ri (S := sZ_isBefore) (by simp only [rZ_isBefore_l, if_neg h1, if_neg h6, if_pos h7, if_neg h8, if_neg h10]; try rfl) rfl rfl rfl
        · skip
          exact am_ri (S := sZ_isBefore) (by simp only [rZ_isBefore_l, if_neg h1, if_neg h6, if_neg h7]; try rfl) rfl rfl rfl
theorem zoZ_isBefore_l : ∀ (f : Nat) (j : Nat → Int32) (c : Nat → Nat → Int32) (p b x q : Int32), rZ_isBefore_l f j c p b x q = 0 ∨ rZ_isBefore_l f j c p b x q = 1 := by
  intro f
  induction f with
  | zero => intro j c p b x q; exact Or.inl rfl
  | succ f ih =>
    intro j c p b x q
    simp only [rZ_isBefore_l]
    repeat' (first | with_reducible refine zo_ite ?_ ?_ | with_reducible exact ih .. | with_reducible exact Or.inl rfl | with_reducible exact Or.inr rfl)
noncomputable def rZ_isBefore (j : Nat → Int32) (c : Nat → Nat → Int32) (p q r : Int32) : Int32 := (rZ_isBefore_l ((Int32.toInt (p - (1 : Int32)) + 1).toNat + 1) j c p q r (p - (1 : Int32)))
set_option maxHeartbeats 4000000 in
set_option maxRecDepth 100000 in
theorem eZ_isBefore (j : Nat → Int32) (c : Nat → Nat → Int32) (p q r : Int32) (i : Nat → Int32) (a : Nat → Nat → Int32) (g0 : 0 ≤ p.toInt) (g9 : p.toInt ≤ 256) (hs : (j 3).toInt ≤ 256) : am_Ev sZ_isBefore [.ref 30, .int p, .int q, .int r] (wX i a (wZ j c)) (some (.int (rZ_isBefore j c p q r))) (wX i a (wZ j c)) := by
  refine am_Ev_of cwZ_isBefore rfl rfl rfl (am_wt_T gdZ_isBefore [5] 400 ?_)
  exact am_Tc (am_Tw (tZ_isBefore_l i a ((Int32.toInt (p - (1 : Int32)) + 1).toNat + 1) j c p q r (p - (1 : Int32)) (Nat.lt_add_one _) ⟨p16 g0 (by omega), by rw [sub1_i g0]; omega, hs⟩) ⟨Or.inr rfl, Or.inr rfl, Or.inr rfl, Or.inr rfl, Or.inr rfl, Or.inl rfl, trivial⟩) (by unfold rZ_isBefore; rfl) rfl
theorem zoZ_isBefore (j : Nat → Int32) (c : Nat → Nat → Int32) (p q r : Int32) : rZ_isBefore j c p q r = 0 ∨ rZ_isBefore j c p q r = 1 := by
  unfold rZ_isBefore
  repeat' (first | with_reducible refine zo_ite ?_ ?_ | with_reducible exact zoZ_isBefore_l .. | with_reducible exact Or.inl rfl | with_reducible exact Or.inr rfl)
def HB (c : Nat → Nat → Int32) (q : Int32) : Prop := q.toInt < 256 ∧ ∃ e : Nat, (e : Int) ≤ q.toInt ∧ ¬ c 12 e = 0
theorem HB_in {c : Nat → Nat → Int32} {q : Int32} (h : HB c q) : vp_in q 256 := by
  obtain ⟨h1, e, h2, -⟩ := h
  rw [vp_in_iff]
  omega
theorem HB_dn {c : Nat → Nat → Int32} {q : Int32} (h : HB c q) (hz : c 12 (Int32.toNatClampNeg q) = 0) : HB c (q + (-1)) := by
  obtain ⟨h1, e, h2, h3⟩ := h
  have em : (-1 : Int32).toInt = -1 := rfl
  have ei : (q + (-1)).toInt = q.toInt - 1 := by rw [add_i (x := q) (y := -1) (by omega) (by omega)]; omega
  refine ⟨by omega, e, ?_, h3⟩
  have hne : ¬ e = Int32.toNatClampNeg q := fun z => h3 (by rw [z]; exact hz)
  have hc := cl_i (x := q) (by omega)
  omega
theorem HB_ms {c : Nat → Nat → Int32} {q : Int32} {f : Nat} (h : HB c q) (hm : (q.toInt + 1).toNat < f + 1) : ((q + (-1)).toInt + 1).toNat < f := by
  obtain ⟨h1, e, h2, -⟩ := h
  have em : (-1 : Int32).toInt = -1 := rfl
  rw [add_i (x := q) (y := -1) (by omega) (by omega)]
  omega
noncomputable def rZ_before_l : Nat → (Nat → Int32) → (Nat → Nat → Int32) → Int32 → Int32
  | 0, _, _, _ => 0
  | f + 1, j, c, q => if ((c 12) (Int32.toNatClampNeg q)) = (0 : Int32) then (rZ_before_l f j c (q + (-1 : Int32))) else q
set_option maxHeartbeats 4000000 in
set_option maxRecDepth 100000 in
theorem tZ_before_l (i : Nat → Int32) (a : Nat → Nat → Int32) : ∀ (f : Nat) (j : Nat → Int32) (c : Nat → Nat → Int32) (q : Int32), (Int32.toInt q + 1).toNat < f → HB c q → am_T sZ_before (some (.int (rZ_before_l f j c q))) (wX i a (wZ j c)) 4 [.ref 30, .retAddr 0, .int q] [] (wX i a (wZ j c)) 0 0 := by
  intro f
  induction f with
  | zero => intro j c q hm; exact absurd hm (Nat.not_lt_zero _)
  | succ f ih =>
    intro j c q hm hp
    refine am_wu_T gdZ_before [4] 400 ?_
    refine And.intro (by exact HB_in hp) ?_
    refine am_split (fun h1 => ?_) (fun h1 => ?_)
    · skip
      exact am_Tc (am_Tw (ih j c (q + (-1 : Int32)) (HB_ms hp hm) (HB_dn hp (by assumption))) ⟨Or.inr rfl, Or.inl rfl, Or.inr rfl, trivial⟩) (by simp only [rZ_before_l, if_pos h1]) rfl
    · skip
      exact am_ri (S := sZ_before) (by simp only [rZ_before_l, if_neg h1]; try rfl) rfl rfl rfl
noncomputable def rZ_before (j : Nat → Int32) (c : Nat → Nat → Int32) (p : Int32) : Int32 := (rZ_before_l ((Int32.toInt (p - (1 : Int32)) + 1).toNat + 1) j c (p - (1 : Int32)))
set_option maxHeartbeats 4000000 in
set_option maxRecDepth 100000 in
theorem eZ_before (j : Nat → Int32) (c : Nat → Nat → Int32) (p : Int32) (i : Nat → Int32) (a : Nat → Nat → Int32) (hb : HB c (p - 1)) : am_Ev sZ_before [.ref 30, .int p] (wX i a (wZ j c)) (some (.int (rZ_before j c p))) (wX i a (wZ j c)) := by
  refine am_Ev_of cwZ_before rfl rfl rfl (am_wt_T gdZ_before [4] 400 ?_)
  exact am_Tc (am_Tw (tZ_before_l i a ((Int32.toInt (p - (1 : Int32)) + 1).toNat + 1) j c (p - (1 : Int32)) (Nat.lt_add_one _) hb) ⟨Or.inr rfl, Or.inl rfl, Or.inr rfl, trivial⟩) (by unfold rZ_before; rfl) rfl
theorem isB_l : ∀ (f : Nat) (j : Nat → Int32) (c : Nat → Nat → Int32) (p b x q : Int32), 0 ≤ (p / 16 * 16).toInt → q.toInt < 256 → ¬ rZ_isBefore_l f j c p b x q = 0 → HB c q := by
  intro f
  induction f with
  | zero => intro j c p b x q hP hq h; exact absurd rfl h
  | succ f ih =>
    intro j c p b x q hP hq h
    rw [rZ_isBefore_l] at h
    split at h
    · rename_i hlt
      rw [if_neg (Int32.not_le.mpr hlt)] at h
      exact absurd rfl h
    · rename_i hlt
      have hn := nn_q hlt hP
      split at h
      · rename_i hz
        obtain ⟨g1, e, g2, g3⟩ := ih _ _ _ _ _ _ hP (q_dn hlt hP hq) h
        have em : (-1 : Int32).toInt = -1 := rfl
        rw [add_i (x := q) (y := -1) (by omega) (by omega)] at g2
        exact ⟨hq, e, by omega, g3⟩
      · rename_i hz
        exact ⟨hq, Int32.toNatClampNeg q, by rw [cl_i hn]; exact Int.le_refl _, hz⟩
theorem isB_HB {j : Nat → Int32} {c : Nat → Nat → Int32} {p b x : Int32} (h0 : 0 ≤ p.toInt) (h9 : p.toInt ≤ 256) (h : ¬ rZ_isBefore j c p b x = 0) : HB c (p - 1) := by
  unfold rZ_isBefore at h
  exact isB_l _ _ _ _ _ _ _ (p16 h0 (by omega)) (by rw [sub1_i h0]; omega) h
theorem bef_l : ∀ (f : Nat) (j : Nat → Int32) (c : Nat → Nat → Int32) (q : Int32), (q.toInt + 1).toNat < f → HB c q → 0 ≤ (rZ_before_l f j c q).toInt ∧ (rZ_before_l f j c q).toInt ≤ q.toInt := by
  intro f
  induction f with
  | zero => intro j c q h; exact absurd h (Nat.not_lt_zero _)
  | succ f ih =>
    intro j c q h hb
    rw [rZ_before_l]
    have hv := HB_in hb
    rw [vp_in_iff] at hv
    split
    · rename_i hz
      have g := ih j c _ (HB_ms hb h) (HB_dn hb hz)
      have em : (-1 : Int32).toInt = -1 := rfl
      rw [add_i (x := q) (y := -1) (by omega) (by omega)] at g
      omega
    · omega
theorem bef_r {j : Nat → Int32} {c : Nat → Nat → Int32} {p : Int32} (hb : HB c (p - 1)) : 0 ≤ (rZ_before j c p).toInt ∧ (rZ_before j c p).toInt ≤ 256 := by
  have h := bef_l ((Int32.toInt (p - 1) + 1).toNat + 1) j c (p - 1) (Nat.lt_add_one _) hb
  have := hb.1
  unfold rZ_before
  exact ⟨h.1, by omega⟩
theorem out_in {t s : Int32} (hs0 : 0 ≤ s.toInt) (hs : s.toInt ≤ 256) (h : rZ_outside t 48 (s - 1) = 0) : 0 ≤ t.toInt ∧ t.toInt < 256 := by
  rw [outside_i, sub1_i hs0, show (48 : Int32).toInt = 48 from rfl] at h
  omega
theorem in_out {t s : Int32} (hs0 : 0 ≤ s.toInt) (hs : s.toInt ≤ 256) (h : rZ_outside t 48 (s - 1) = 0) : vp_in t 256 := by
  rw [vp_in_iff]
  exact out_in hs0 hs h
theorem out_0 {t s : Int32} (hs0 : 0 ≤ s.toInt) (hs : s.toInt ≤ 256) (h : rZ_outside t 48 (s - 1) = 0) : 0 ≤ t.toInt := (out_in hs0 hs h).1
theorem out_1 {t s : Int32} (hs0 : 0 ≤ s.toInt) (hs : s.toInt ≤ 256) (h : rZ_outside t 48 (s - 1) = 0) : t.toInt ≤ 1000 := by have := out_in hs0 hs h; omega
noncomputable def rZ_lands (j : Nat → Int32) (c : Nat → Nat → Int32) (p : Int32) : Int32 := if p = (0 : Int32) then (1 : Int32) else if p = (16 : Int32) then (1 : Int32) else if p = (32 : Int32) then (1 : Int32) else if (rZ_outside p (48 : Int32) ((j 3) - (1 : Int32))) = (0 : Int32) then if ((c 12) (Int32.toNatClampNeg p)) = (0 : Int32) then (0 : Int32) else if (rZ_bitsAt j c p) = (rZ_made (3 : Int32) (31 : Int32) (31 : Int32) (28 : Int32)) then (0 : Int32) else if (rZ_kind j c (rZ_bitsAt j c p)) = (6 : Int32) then (0 : Int32) else if (rZ_kind j c (rZ_bitsAt j c p)) = (7 : Int32) then (0 : Int32) else if (rZ_kind j c (rZ_bitsAt j c p)) = (12 : Int32) then (0 : Int32) else (1 : Int32) else (0 : Int32)
set_option maxHeartbeats 4000000 in
set_option maxRecDepth 100000 in
theorem eZ_lands (j : Nat → Int32) (c : Nat → Nat → Int32) (p : Int32) (i : Nat → Int32) (a : Nat → Nat → Int32) (hs0 : 0 ≤ (j 3).toInt) (hs : (j 3).toInt ≤ 256) : am_Ev sZ_lands [.ref 30, .int p] (wX i a (wZ j c)) (some (.int (rZ_lands j c p))) (wX i a (wZ j c)) := by
  refine am_Ev_of cwZ_lands rfl rfl rfl (am_wp_T gdZ_lands 400 ?_)
  refine am_split (fun h1 => ?_) (fun h1 => ?_)
  · skip
    exact am_ri (S := sZ_lands) (by unfold rZ_lands; simp only [if_pos h1]; try rfl) rfl rfl rfl
  · skip
    refine am_split (fun h2 => ?_) (fun h2 => ?_)
    · skip
      exact am_ri (S := sZ_lands) (by unfold rZ_lands; simp only [if_neg h1, if_pos h2]; try rfl) rfl rfl rfl
    · skip
      refine am_split (fun h3 => ?_) (fun h3 => ?_)
      · skip
        exact am_ri (S := sZ_lands) (by unfold rZ_lands; simp only [if_neg h1, if_neg h2, if_pos h3]; try rfl) rfl rfl rfl
      · skip
        refine am_call (eZ_outside p (48 : Int32) ((j 3) - (1 : Int32)) _) ?_
        refine am_split (fun h4 => ?_) (fun h4 => ?_)
        · skip
          refine And.intro (by exact in_out hs0 hs (by assumption)) ?_
          refine am_split (fun h5 => ?_) (fun h5 => ?_)
          · skip
            exact am_ri (S := sZ_lands) (by unfold rZ_lands; simp only [if_neg h1, if_neg h2, if_neg h3, if_pos h4, if_pos h5]; try rfl) rfl rfl rfl
          · skip
            refine am_call (eZ_bitsAt j c p i a  (by first | with_reducible exact hs | with_reducible exact out_0 hs0 hs (by assumption) | with_reducible exact out_1 hs0 hs (by assumption)) (by first | with_reducible exact hs | with_reducible exact out_0 hs0 hs (by assumption) | with_reducible exact out_1 hs0 hs (by assumption)) (by first | with_reducible exact hs | with_reducible exact out_0 hs0 hs (by assumption) | with_reducible exact out_1 hs0 hs (by assumption))) ?_
            refine am_call (eZ_kind j c (rZ_bitsAt j c p) i a) ?_
            refine am_call (eZ_made (3 : Int32) (31 : Int32) (31 : Int32) (28 : Int32) _) ?_
            refine am_split (fun h6 => ?_) (fun h6 => ?_)
            · skip
              exact am_ri (S := sZ_lands) (by unfold rZ_lands; simp only [if_neg h1, if_neg h2, if_neg h3, if_pos h4, if_neg h5, if_pos h6]; try rfl) rfl rfl rfl
            · skip
              refine am_split (fun h7 => ?_) (fun h7 => ?_)
              · skip
                exact am_ri (S := sZ_lands) (by unfold rZ_lands; simp only [if_neg h1, if_neg h2, if_neg h3, if_pos h4, if_neg h5, if_neg h6, if_pos h7]; try rfl) rfl rfl rfl
              · skip
                refine am_split (fun h8 => ?_) (fun h8 => ?_)
                · skip
                  exact am_ri (S := sZ_lands) (by unfold rZ_lands; simp only [if_neg h1, if_neg h2, if_neg h3, if_pos h4, if_neg h5, if_neg h6, if_neg h7, if_pos h8]; try rfl) rfl rfl rfl
                · skip
                  refine am_split (fun h9 => ?_) (fun h9 => ?_)
                  · skip
                    exact am_ri (S := sZ_lands) (by unfold rZ_lands; simp only [if_neg h1, if_neg h2, if_neg h3, if_pos h4, if_neg h5, if_neg h6, if_neg h7, if_neg h8, if_pos h9]; try rfl) rfl rfl rfl
                  · skip
                    exact am_ri (S := sZ_lands) (by unfold rZ_lands; simp only [if_neg h1, if_neg h2, if_neg h3, if_pos h4, if_neg h5, if_neg h6, if_neg h7, if_neg h8, if_neg h9]; try rfl) rfl rfl rfl
        · skip
          exact am_ri (S := sZ_lands) (by unfold rZ_lands; simp only [if_neg h1, if_neg h2, if_neg h3, if_neg h4]; try rfl) rfl rfl rfl
theorem zoZ_lands (j : Nat → Int32) (c : Nat → Nat → Int32) (p : Int32) : rZ_lands j c p = 0 ∨ rZ_lands j c p = 1 := by
  unfold rZ_lands
  repeat' (first | with_reducible refine zo_ite ?_ ?_ | with_reducible exact Or.inl rfl | with_reducible exact Or.inr rfl)
theorem le1000 {x : Int} (h : x ≤ 256) : x ≤ 1000 := by omega
noncomputable def rZ_right (j : Nat → Int32) (c : Nat → Nat → Int32) (p : Int32) : Int32 := if (rZ_spoils j c (rZ_kind j c (rZ_bitsAt j c p)) (rZ_bitsAt j c p)) = (0 : Int32) then if (rZ_kind j c (rZ_bitsAt j c p)) = (6 : Int32) then if (rZ_fieldB (rZ_kind j c (rZ_bitsAt j c p)) (rZ_bitsAt j c p)) = (31 : Int32) then if (rZ_fieldC (rZ_kind j c (rZ_bitsAt j c p)) (rZ_bitsAt j c p)) = (0 : Int32) then if (rZ_isBefore j c p (rZ_made (3 : Int32) (31 : Int32) (31 : Int32) (28 : Int32)) (0 : Int32)) = (0 : Int32) then (0 : Int32) else if (rZ_isBefore j c (rZ_before j c p) (rZ_made (2 : Int32) (31 : Int32) (31 : Int32) (29 : Int32)) (0 : Int32)) = (0 : Int32) then (0 : Int32) else (1 : Int32) else (0 : Int32) else (0 : Int32) else if (rZ_kind j c (rZ_bitsAt j c p)) = (7 : Int32) then if (rZ_fieldB (rZ_kind j c (rZ_bitsAt j c p)) (rZ_bitsAt j c p)) = (31 : Int32) then if (rZ_fieldC (rZ_kind j c (rZ_bitsAt j c p)) (rZ_bitsAt j c p)) = (0 : Int32) then if (rZ_isBefore j c p (rZ_made (3 : Int32) (31 : Int32) (31 : Int32) (28 : Int32)) (0 : Int32)) = (0 : Int32) then (0 : Int32) else if (rZ_isBefore j c (rZ_before j c p) (rZ_made (2 : Int32) (31 : Int32) (31 : Int32) (29 : Int32)) (0 : Int32)) = (0 : Int32) then (0 : Int32) else (1 : Int32) else (0 : Int32) else (0 : Int32) else if (rZ_kind j c (rZ_bitsAt j c p)) = (12 : Int32) then if (rZ_fieldB (rZ_kind j c (rZ_bitsAt j c p)) (rZ_bitsAt j c p)) = (31 : Int32) then if (rZ_fieldC (rZ_kind j c (rZ_bitsAt j c p)) (rZ_bitsAt j c p)) = (0 : Int32) then if (rZ_isBefore j c p (rZ_made (2 : Int32) (31 : Int32) (0 : Int32) (27 : Int32)) (1 : Int32)) = (0 : Int32) then (0 : Int32) else (1 : Int32) else (0 : Int32) else (0 : Int32) else if (rZ_kind j c (rZ_bitsAt j c p)) < (8 : Int32) then (1 : Int32) else if (11 : Int32) < (rZ_kind j c (rZ_bitsAt j c p)) then (1 : Int32) else if (rZ_kind j c (rZ_bitsAt j c p)) = (11 : Int32) then if (rZ_lands j c (p + (rZ_fieldB (rZ_kind j c (rZ_bitsAt j c p)) (rZ_bitsAt j c p)))) = (0 : Int32) then (0 : Int32) else (1 : Int32) else if (rZ_lands j c (p + (rZ_fieldC (rZ_kind j c (rZ_bitsAt j c p)) (rZ_bitsAt j c p)))) = (0 : Int32) then (0 : Int32) else (1 : Int32) else (0 : Int32)
set_option maxHeartbeats 4000000 in
set_option maxRecDepth 100000 in
theorem eZ_right (j : Nat → Int32) (c : Nat → Nat → Int32) (p : Int32) (i : Nat → Int32) (a : Nat → Nat → Int32) (g0 : 0 ≤ p.toInt) (g9 : p.toInt ≤ 256) (hs0 : 0 ≤ (j 3).toInt) (hs : (j 3).toInt ≤ 256) : am_Ev sZ_right [.ref 30, .int p] (wX i a (wZ j c)) (some (.int (rZ_right j c p))) (wX i a (wZ j c)) := by
  refine am_Ev_of cwZ_right rfl rfl rfl (am_wp_T gdZ_right 400 ?_)
  refine am_call (eZ_bitsAt j c p i a  (by first | with_reducible exact hs | with_reducible exact hs0 | with_reducible exact g0 | with_reducible exact g9 | with_reducible exact le1000 g9 | with_reducible exact isB_HB g0 g9 (by assumption) | with_reducible exact (bef_r (isB_HB g0 g9 (by assumption))).1 | with_reducible exact (bef_r (isB_HB g0 g9 (by assumption))).2) (by first | with_reducible exact hs | with_reducible exact hs0 | with_reducible exact g0 | with_reducible exact g9 | with_reducible exact le1000 g9 | with_reducible exact isB_HB g0 g9 (by assumption) | with_reducible exact (bef_r (isB_HB g0 g9 (by assumption))).1 | with_reducible exact (bef_r (isB_HB g0 g9 (by assumption))).2) (by first | with_reducible exact hs | with_reducible exact hs0 | with_reducible exact g0 | with_reducible exact g9 | with_reducible exact le1000 g9 | with_reducible exact isB_HB g0 g9 (by assumption) | with_reducible exact (bef_r (isB_HB g0 g9 (by assumption))).1 | with_reducible exact (bef_r (isB_HB g0 g9 (by assumption))).2)) ?_
  refine am_call (eZ_kind j c (rZ_bitsAt j c p) i a) ?_
  refine am_call (eZ_spoils j c (rZ_kind j c (rZ_bitsAt j c p)) (rZ_bitsAt j c p) i a) ?_
  refine am_split (fun h1 => ?_) (fun h1 => ?_)
  · skip
    refine am_split (fun h2 => ?_) (fun h2 => ?_)
    · skip
      refine am_call (eZ_fieldB (rZ_kind j c (rZ_bitsAt j c p)) (rZ_bitsAt j c p) _) ?_
      refine am_split (fun h3 => ?_) (fun h3 => ?_)
      · skip
        refine am_call (eZ_fieldC (rZ_kind j c (rZ_bitsAt j c p)) (rZ_bitsAt j c p) _) ?_
        refine am_split (fun h4 => ?_) (fun h4 => ?_)
        · skip
          refine am_split (fun hz => absurd hz (by decide)) (fun _ => ?_)
          refine am_call (eZ_made (3 : Int32) (31 : Int32) (31 : Int32) (28 : Int32) _) ?_
          refine am_call (eZ_isBefore j c p (rZ_made (3 : Int32) (31 : Int32) (31 : Int32) (28 : Int32)) (0 : Int32) i a  (by first | with_reducible exact hs | with_reducible exact hs0 | with_reducible exact g0 | with_reducible exact g9 | with_reducible exact le1000 g9 | with_reducible exact isB_HB g0 g9 (by assumption) | with_reducible exact (bef_r (isB_HB g0 g9 (by assumption))).1 | with_reducible exact (bef_r (isB_HB g0 g9 (by assumption))).2) (by first | with_reducible exact hs | with_reducible exact hs0 | with_reducible exact g0 | with_reducible exact g9 | with_reducible exact le1000 g9 | with_reducible exact isB_HB g0 g9 (by assumption) | with_reducible exact (bef_r (isB_HB g0 g9 (by assumption))).1 | with_reducible exact (bef_r (isB_HB g0 g9 (by assumption))).2) (by first | with_reducible exact hs | with_reducible exact hs0 | with_reducible exact g0 | with_reducible exact g9 | with_reducible exact le1000 g9 | with_reducible exact isB_HB g0 g9 (by assumption) | with_reducible exact (bef_r (isB_HB g0 g9 (by assumption))).1 | with_reducible exact (bef_r (isB_HB g0 g9 (by assumption))).2)) ?_
          refine am_split (fun h5 => ?_) (fun h5 => ?_)
          · skip
            exact am_ri (S := sZ_right) (by unfold rZ_right; simp only [if_pos h1, if_pos h2, if_pos h3, if_pos h4, if_pos h5]; try rfl) rfl rfl rfl
          · skip
            refine am_call (eZ_before j c p i a  (by first | with_reducible exact hs | with_reducible exact hs0 | with_reducible exact g0 | with_reducible exact g9 | with_reducible exact le1000 g9 | with_reducible exact isB_HB g0 g9 (by assumption) | with_reducible exact (bef_r (isB_HB g0 g9 (by assumption))).1 | with_reducible exact (bef_r (isB_HB g0 g9 (by assumption))).2)) ?_
            refine am_call (eZ_made (2 : Int32) (31 : Int32) (31 : Int32) (29 : Int32) _) ?_
            refine am_call (eZ_isBefore j c (rZ_before j c p) (rZ_made (2 : Int32) (31 : Int32) (31 : Int32) (29 : Int32)) (0 : Int32) i a  (by first | with_reducible exact hs | with_reducible exact hs0 | with_reducible exact g0 | with_reducible exact g9 | with_reducible exact le1000 g9 | with_reducible exact isB_HB g0 g9 (by assumption) | with_reducible exact (bef_r (isB_HB g0 g9 (by assumption))).1 | with_reducible exact (bef_r (isB_HB g0 g9 (by assumption))).2) (by first | with_reducible exact hs | with_reducible exact hs0 | with_reducible exact g0 | with_reducible exact g9 | with_reducible exact le1000 g9 | with_reducible exact isB_HB g0 g9 (by assumption) | with_reducible exact (bef_r (isB_HB g0 g9 (by assumption))).1 | with_reducible exact (bef_r (isB_HB g0 g9 (by assumption))).2) (by first | with_reducible exact hs | with_reducible exact hs0 | with_reducible exact g0 | with_reducible exact g9 | with_reducible exact le1000 g9 | with_reducible exact isB_HB g0 g9 (by assumption) | with_reducible exact (bef_r (isB_HB g0 g9 (by assumption))).1 | with_reducible exact (bef_r (isB_HB g0 g9 (by assumption))).2)) ?_
            refine am_split (fun h6 => ?_) (fun h6 => ?_)
            · skip
              exact am_ri (S := sZ_right) (by unfold rZ_right; simp only [if_pos h1, if_pos h2, if_pos h3, if_pos h4, if_neg h5, if_pos h6]; try rfl) rfl rfl rfl
            · skip
              exact am_ri (S := sZ_right) (by unfold rZ_right; simp only [if_pos h1, if_pos h2, if_pos h3, if_pos h4, if_neg h5, if_neg h6]; try rfl) rfl rfl rfl
        · skip
          refine am_split (fun _ => ?_) (fun hz => absurd (by decide) hz)
          exact am_ri (S := sZ_right) (by unfold rZ_right; simp only [if_pos h1, if_pos h2, if_pos h3, if_neg h4]; try rfl) rfl rfl rfl
      · skip
        refine am_split (fun _ => ?_) (fun hz => absurd (by decide) hz)
        exact am_ri (S := sZ_right) (by unfold rZ_right; simp only [if_pos h1, if_pos h2, if_neg h3]; try rfl) rfl rfl rfl
    · skip
      refine am_split (fun h7 => ?_) (fun h7 => ?_)
      · skip
        refine am_call (eZ_fieldB (rZ_kind j c (rZ_bitsAt j c p)) (rZ_bitsAt j c p) _) ?_
        refine am_split (fun h8 => ?_) (fun h8 => ?_)
        · skip
          refine am_call (eZ_fieldC (rZ_kind j c (rZ_bitsAt j c p)) (rZ_bitsAt j c p) _) ?_
          refine am_split (fun h9 => ?_) (fun h9 => ?_)
          · skip
            refine am_split (fun hz => absurd hz (by decide)) (fun _ => ?_)
            refine am_call (eZ_made (3 : Int32) (31 : Int32) (31 : Int32) (28 : Int32) _) ?_
            refine am_call (eZ_isBefore j c p (rZ_made (3 : Int32) (31 : Int32) (31 : Int32) (28 : Int32)) (0 : Int32) i a  (by first | with_reducible exact hs | with_reducible exact hs0 | with_reducible exact g0 | with_reducible exact g9 | with_reducible exact le1000 g9 | with_reducible exact isB_HB g0 g9 (by assumption) | with_reducible exact (bef_r (isB_HB g0 g9 (by assumption))).1 | with_reducible exact (bef_r (isB_HB g0 g9 (by assumption))).2) (by first | with_reducible exact hs | with_reducible exact hs0 | with_reducible exact g0 | with_reducible exact g9 | with_reducible exact le1000 g9 | with_reducible exact isB_HB g0 g9 (by assumption) | with_reducible exact (bef_r (isB_HB g0 g9 (by assumption))).1 | with_reducible exact (bef_r (isB_HB g0 g9 (by assumption))).2) (by first | with_reducible exact hs | with_reducible exact hs0 | with_reducible exact g0 | with_reducible exact g9 | with_reducible exact le1000 g9 | with_reducible exact isB_HB g0 g9 (by assumption) | with_reducible exact (bef_r (isB_HB g0 g9 (by assumption))).1 | with_reducible exact (bef_r (isB_HB g0 g9 (by assumption))).2)) ?_
            refine am_split (fun h10 => ?_) (fun h10 => ?_)
            · skip
              exact am_ri (S := sZ_right) (by unfold rZ_right; simp only [if_pos h1, if_neg h2, if_pos h7, if_pos h8, if_pos h9, if_pos h10]; try rfl) rfl rfl rfl
            · skip
              refine am_call (eZ_before j c p i a  (by first | with_reducible exact hs | with_reducible exact hs0 | with_reducible exact g0 | with_reducible exact g9 | with_reducible exact le1000 g9 | with_reducible exact isB_HB g0 g9 (by assumption) | with_reducible exact (bef_r (isB_HB g0 g9 (by assumption))).1 | with_reducible exact (bef_r (isB_HB g0 g9 (by assumption))).2)) ?_
              refine am_call (eZ_made (2 : Int32) (31 : Int32) (31 : Int32) (29 : Int32) _) ?_
              refine am_call (eZ_isBefore j c (rZ_before j c p) (rZ_made (2 : Int32) (31 : Int32) (31 : Int32) (29 : Int32)) (0 : Int32) i a  (by first | with_reducible exact hs | with_reducible exact hs0 | with_reducible exact g0 | with_reducible exact g9 | with_reducible exact le1000 g9 | with_reducible exact isB_HB g0 g9 (by assumption) | with_reducible exact (bef_r (isB_HB g0 g9 (by assumption))).1 | with_reducible exact (bef_r (isB_HB g0 g9 (by assumption))).2) (by first | with_reducible exact hs | with_reducible exact hs0 | with_reducible exact g0 | with_reducible exact g9 | with_reducible exact le1000 g9 | with_reducible exact isB_HB g0 g9 (by assumption) | with_reducible exact (bef_r (isB_HB g0 g9 (by assumption))).1 | with_reducible exact (bef_r (isB_HB g0 g9 (by assumption))).2) (by first | with_reducible exact hs | with_reducible exact hs0 | with_reducible exact g0 | with_reducible exact g9 | with_reducible exact le1000 g9 | with_reducible exact isB_HB g0 g9 (by assumption) | with_reducible exact (bef_r (isB_HB g0 g9 (by assumption))).1 | with_reducible exact (bef_r (isB_HB g0 g9 (by assumption))).2)) ?_
              refine am_split (fun h11 => ?_) (fun h11 => ?_)
              · skip
                exact am_ri (S := sZ_right) (by unfold rZ_right; simp only [if_pos h1, if_neg h2, if_pos h7, if_pos h8, if_pos h9, if_neg h10, if_pos h11]; try rfl) rfl rfl rfl
              · skip
                exact am_ri (S := sZ_right) (by unfold rZ_right; simp only [if_pos h1, if_neg h2, if_pos h7, if_pos h8, if_pos h9, if_neg h10, if_neg h11]; try rfl) rfl rfl rfl
          · skip
            refine am_split (fun _ => ?_) (fun hz => absurd (by decide) hz)
            exact am_ri (S := sZ_right) (by unfold rZ_right; simp only [if_pos h1, if_neg h2, if_pos h7, if_pos h8, if_neg h9]; try rfl) rfl rfl rfl
        · skip
          refine am_split (fun _ => ?_) (fun hz => absurd (by decide) hz)
          exact am_ri (S := sZ_right) (by unfold rZ_right; simp only [if_pos h1, if_neg h2, if_pos h7, if_neg h8]; try rfl) rfl rfl rfl
      · skip
        refine am_split (fun h12 => ?_) (fun h12 => ?_)
        · skip
          refine am_call (eZ_fieldB (rZ_kind j c (rZ_bitsAt j c p)) (rZ_bitsAt j c p) _) ?_
          refine am_split (fun h13 => ?_) (fun h13 => ?_)
          · skip
            refine am_call (eZ_fieldC (rZ_kind j c (rZ_bitsAt j c p)) (rZ_bitsAt j c p) _) ?_
            refine am_split (fun h14 => ?_) (fun h14 => ?_)
            · skip
              refine am_call (eZ_made (2 : Int32) (31 : Int32) (0 : Int32) (27 : Int32) _) ?_
              refine am_call (eZ_isBefore j c p (rZ_made (2 : Int32) (31 : Int32) (0 : Int32) (27 : Int32)) (1 : Int32) i a  (by first | with_reducible exact hs | with_reducible exact hs0 | with_reducible exact g0 | with_reducible exact g9 | with_reducible exact le1000 g9 | with_reducible exact isB_HB g0 g9 (by assumption) | with_reducible exact (bef_r (isB_HB g0 g9 (by assumption))).1 | with_reducible exact (bef_r (isB_HB g0 g9 (by assumption))).2) (by first | with_reducible exact hs | with_reducible exact hs0 | with_reducible exact g0 | with_reducible exact g9 | with_reducible exact le1000 g9 | with_reducible exact isB_HB g0 g9 (by assumption) | with_reducible exact (bef_r (isB_HB g0 g9 (by assumption))).1 | with_reducible exact (bef_r (isB_HB g0 g9 (by assumption))).2) (by first | with_reducible exact hs | with_reducible exact hs0 | with_reducible exact g0 | with_reducible exact g9 | with_reducible exact le1000 g9 | with_reducible exact isB_HB g0 g9 (by assumption) | with_reducible exact (bef_r (isB_HB g0 g9 (by assumption))).1 | with_reducible exact (bef_r (isB_HB g0 g9 (by assumption))).2)) ?_
              refine am_split (fun h15 => ?_) (fun h15 => ?_)
              · skip
                exact am_ri (S := sZ_right) (by unfold rZ_right; simp only [if_pos h1, if_neg h2, if_neg h7, if_pos h12, if_pos h13, if_pos h14, if_pos h15]; try rfl) rfl rfl rfl
              · skip
                exact am_ri (S := sZ_right) (by unfold rZ_right; simp only [if_pos h1, if_neg h2, if_neg h7, if_pos h12, if_pos h13, if_pos h14, if_neg h15]; try rfl) rfl rfl rfl
            · skip
              exact am_ri (S := sZ_right) (by unfold rZ_right; simp only [if_pos h1, if_neg h2, if_neg h7, if_pos h12, if_pos h13, if_neg h14]; try rfl) rfl rfl rfl
          · skip
            exact am_ri (S := sZ_right) (by unfold rZ_right; simp only [if_pos h1, if_neg h2, if_neg h7, if_pos h12, if_neg h13]; try rfl) rfl rfl rfl
        · skip
          refine am_split (fun h16 => ?_) (fun h16 => ?_)
          · skip
            exact am_ri (S := sZ_right) (by unfold rZ_right; simp only [if_pos h1, if_neg h2, if_neg h7, if_neg h12, if_pos h16]; try rfl) rfl rfl rfl
          · skip
            refine am_split (fun h17 => ?_) (fun h17 => ?_)
            · skip
              exact am_ri (S := sZ_right) (by unfold rZ_right; simp only [if_pos h1, if_neg h2, if_neg h7, if_neg h12, if_neg h16, if_pos h17]; try rfl) rfl rfl rfl
            · skip
              refine am_split (fun h18 => ?_) (fun h18 => ?_)
              · skip
                refine am_call (eZ_fieldB (rZ_kind j c (rZ_bitsAt j c p)) (rZ_bitsAt j c p) _) ?_
                refine am_call (eZ_lands j c (p + (rZ_fieldB (rZ_kind j c (rZ_bitsAt j c p)) (rZ_bitsAt j c p))) i a  (by first | with_reducible exact hs | with_reducible exact hs0 | with_reducible exact g0 | with_reducible exact g9 | with_reducible exact le1000 g9 | with_reducible exact isB_HB g0 g9 (by assumption) | with_reducible exact (bef_r (isB_HB g0 g9 (by assumption))).1 | with_reducible exact (bef_r (isB_HB g0 g9 (by assumption))).2) (by first | with_reducible exact hs | with_reducible exact hs0 | with_reducible exact g0 | with_reducible exact g9 | with_reducible exact le1000 g9 | with_reducible exact isB_HB g0 g9 (by assumption) | with_reducible exact (bef_r (isB_HB g0 g9 (by assumption))).1 | with_reducible exact (bef_r (isB_HB g0 g9 (by assumption))).2)) ?_
                refine am_split (fun h19 => ?_) (fun h19 => ?_)
                · skip
                  exact am_ri (S := sZ_right) (by unfold rZ_right; simp only [if_pos h1, if_neg h2, if_neg h7, if_neg h12, if_neg h16, if_neg h17, if_pos h18, if_pos h19]; try rfl) rfl rfl rfl
                · skip
                  exact am_ri (S := sZ_right) (by unfold rZ_right; simp only [if_pos h1, if_neg h2, if_neg h7, if_neg h12, if_neg h16, if_neg h17, if_pos h18, if_neg h19]; try rfl) rfl rfl rfl
              · skip
                refine am_call (eZ_fieldC (rZ_kind j c (rZ_bitsAt j c p)) (rZ_bitsAt j c p) _) ?_
                refine am_call (eZ_lands j c (p + (rZ_fieldC (rZ_kind j c (rZ_bitsAt j c p)) (rZ_bitsAt j c p))) i a  (by first | with_reducible exact hs | with_reducible exact hs0 | with_reducible exact g0 | with_reducible exact g9 | with_reducible exact le1000 g9 | with_reducible exact isB_HB g0 g9 (by assumption) | with_reducible exact (bef_r (isB_HB g0 g9 (by assumption))).1 | with_reducible exact (bef_r (isB_HB g0 g9 (by assumption))).2) (by first | with_reducible exact hs | with_reducible exact hs0 | with_reducible exact g0 | with_reducible exact g9 | with_reducible exact le1000 g9 | with_reducible exact isB_HB g0 g9 (by assumption) | with_reducible exact (bef_r (isB_HB g0 g9 (by assumption))).1 | with_reducible exact (bef_r (isB_HB g0 g9 (by assumption))).2)) ?_
                refine am_split (fun h20 => ?_) (fun h20 => ?_)
                · skip
                  exact am_ri (S := sZ_right) (by unfold rZ_right; simp only [if_pos h1, if_neg h2, if_neg h7, if_neg h12, if_neg h16, if_neg h17, if_neg h18, if_pos h20]; try rfl) rfl rfl rfl
                · skip
                  exact am_ri (S := sZ_right) (by unfold rZ_right; simp only [if_pos h1, if_neg h2, if_neg h7, if_neg h12, if_neg h16, if_neg h17, if_neg h18, if_neg h20]; try rfl) rfl rfl rfl
  · skip
    exact am_ri (S := sZ_right) (by unfold rZ_right; simp only [if_neg h1]; try rfl) rfl rfl rfl
theorem zoZ_right (j : Nat → Int32) (c : Nat → Nat → Int32) (p : Int32) : rZ_right j c p = 0 ∨ rZ_right j c p = 1 := by
  unfold rZ_right
  repeat' (first | with_reducible refine zo_ite ?_ ?_ | with_reducible exact Or.inl rfl | with_reducible exact Or.inr rfl)

/-! build: the layout, class and reference alike -/
theorem m16_i {x : Int32} (h0 : 0 ≤ x.toInt) : (x - x / 16 * 16).toInt = x.toInt % 16 := by rw [rem16_i, if_pos h0]
theorem nw_i {p q : Int32} (p0 : 0 ≤ p.toInt) (p1 : p.toInt ≤ 16) (q0 : 0 ≤ q.toInt) (q1 : q.toInt ≤ 5000) : (rL_nextWith p q).toInt = if q.toInt - q.toInt % 16 + p.toInt < q.toInt then q.toInt - q.toInt % 16 + p.toInt + 16 else q.toInt - q.toInt % 16 + p.toInt := by
  unfold rL_nextWith
  have e1 := m16_i q0
  have e2 : (q - (q - q / 16 * 16)).toInt = q.toInt - q.toInt % 16 := by rw [sub_i (by omega) (by omega), e1]
  have e3 : ((q - (q - q / 16 * 16)) + p).toInt = q.toInt - q.toInt % 16 + p.toInt := by rw [addc rfl (by omega) (by omega), e2]
  by_cases h : (q - (q - q / 16 * 16)) + p < q
  · rw [if_pos h]
    rw [lt_i, e3] at h
    rw [if_pos h, addc c16 (by omega) (by omega), e3]
  · rw [if_neg h]
    rw [lt_i, e3] at h
    rw [if_neg h, e3]
theorem rest_i {t : Int32} (q0 : 0 ≤ t.toInt) (q1 : t.toInt ≤ 5000) : (rZ_rest t).toInt = (16 - t.toInt % 16) % 16 := by
  unfold rZ_rest
  have e1 := m16_i q0
  have e2 : (16 - (t - t / 16 * 16)).toInt = 16 - t.toInt % 16 := by rw [sub_i (by rw [c16]; omega) (by rw [c16]; omega), e1, c16]
  rw [m16_i (by omega), e2]
theorem nw0 {t : Int32} (q0 : 0 ≤ t.toInt) (q1 : t.toInt ≤ 4000) : t + rZ_rest t = rL_nextWith 0 t := by
  apply Int32.toInt_inj.mp
  have e := rest_i q0 (by omega)
  rw [addc e (by omega) (by omega), nw_i (by decide) (by decide) q0 (by omega), c0]
  split <;> omega
theorem nws {t z : Int32} (q0 : 0 ≤ t.toInt) (q1 : t.toInt ≤ 4000) (z0 : 1 ≤ z.toInt) (z1 : z.toInt ≤ 16) : t + rZ_rest (t + z) = rL_nextWith (16 - z) t := by
  apply Int32.toInt_inj.mp
  have e0 : (t + z).toInt = t.toInt + z.toInt := addc rfl (by omega) (by omega)
  have e := rest_i (t := t + z) (by omega) (by omega)
  have e2 : ((16 : Int32) - z).toInt = 16 - z.toInt := by rw [sub_i (by rw [c16]; omega) (by rw [c16]; omega), c16]
  rw [addc e (by omega) (by omega), nw_i (by omega) (by omega) q0 (by omega), e2, e0]
  split <;> omega
/-- where a target stands; where a line stands -/
noncomputable def tpF (m t : Int32) : Int32 := if m = 0 then t else rL_nextWith 0 t
noncomputable def lpF (e z r : Int32) : Int32 := if e = 0 then (if (r - r / 16 * 16) + z ≤ 16 then r else rL_nextWith 0 r) else rL_nextWith (16 - z) r
theorem tp_f {m t : Int32} (q0 : 0 ≤ t.toInt) (q1 : t.toInt ≤ 4000) (q2 : t.toInt % 2 = 0) : t.toInt ≤ (tpF m t).toInt ∧ (tpF m t).toInt ≤ t.toInt + 15 ∧ (tpF m t).toInt % 2 = 0 ∧ (¬ (tpF m t).toInt = t.toInt → (tpF m t).toInt % 16 = 0) := by
  unfold tpF
  by_cases h : m = 0
  · rw [if_pos h]; omega
  · rw [if_neg h, nw_i (by decide) (by decide) q0 (by omega), c0]
    split <;> omega
theorem lsz_r (k : Int32) : lsz k = 16 ∨ lsz k = 8 ∨ lsz k = 2 ∨ lsz k = 4 := by
  unfold lsz
  split
  · omega
  · split
    · omega
    · split <;> omega
theorem bytes_i (k : Int32) : (rL_bytesOf k).toInt = lsz k := by
  unfold rL_bytesOf lsz
  by_cases h6 : k = 6
  · subst h6; rfl
  by_cases h7 : k = 7
  · subst h7; rfl
  by_cases h12 : k = 12
  · subst h12; rfl
  by_cases h13 : k = 13
  · subst h13; rfl
  by_cases h14 : k = 14
  · subst h14; rfl
  simp only [if_neg h6, if_neg h7, if_neg h12, if_neg h13, if_neg h14, ite_self, h6, h7, h13, h14, or_false, if_false]
  rfl
theorem size_of (j : Nat → Int32) (c : Nat → Nat → Int32) (p : Int32) : rZ_sizeOf j c p = rL_bytesOf (c 0 p.toNatClampNeg) := by
  unfold rZ_sizeOf rL_bytesOf
  generalize c 0 p.toNatClampNeg = k
  by_cases h6 : k = 6
  · subst h6; rfl
  by_cases h7 : k = 7
  · subst h7; rfl
  by_cases h12 : k = 12
  · subst h12; rfl
  by_cases h13 : k = 13
  · subst h13; rfl
  by_cases h14 : k = 14
  · subst h14; rfl
  simp only [if_neg h6, if_neg h7, if_neg h12, if_neg h13, if_neg h14, ite_self]
theorem ends_of (j : Nat → Int32) (c : Nat → Nat → Int32) (p : Int32) : rZ_ends j c p = rL_endsBundle (c 0 p.toNatClampNeg) (c 1 p.toNatClampNeg) := rfl
theorem ends_sz {k x : Int32} (h : ¬ rL_endsBundle k x = 0) : lsz k = 4 ∨ lsz k = 8 := by
  unfold rL_endsBundle at h
  by_cases h15 : k = 15
  · subst h15; exact Or.inl (by decide)
  by_cases h11 : k = 11
  · subst h11; exact Or.inl (by decide)
  by_cases h12 : k = 12
  · subst h12; exact Or.inr (by decide)
  rw [if_neg h15, if_neg h11, if_neg h12] at h
  exact absurd rfl h
theorem lp_f {k x r : Int32} (q0 : 0 ≤ r.toInt) (q1 : r.toInt ≤ 4000) (q2 : r.toInt % 2 = 0) : r.toInt ≤ (lpF (rL_endsBundle k x) (rL_bytesOf k) r).toInt ∧ (lpF (rL_endsBundle k x) (rL_bytesOf k) r).toInt ≤ r.toInt + 15 ∧ (lpF (rL_endsBundle k x) (rL_bytesOf k) r).toInt % 2 = 0 ∧ (r.toInt % 16 = 0 → ((lpF (rL_endsBundle k x) (rL_bytesOf k) r).toInt - r.toInt) % 4 = 0) := by
  have hz := bytes_i k
  have hr := lsz_r k
  unfold lpF
  by_cases h : rL_endsBundle k x = 0
  · rw [if_pos h]
    have e3 : ((r - r / 16 * 16) + rL_bytesOf k).toInt = r.toInt % 16 + lsz k := by rw [addc hz (by rw [m16_i q0]; omega) (by rw [m16_i q0]; omega), m16_i q0]
    by_cases h2 : (r - r / 16 * 16) + rL_bytesOf k ≤ 16
    · rw [if_pos h2]; omega
    · rw [if_neg h2, nw_i (by decide) (by decide) q0 (by omega), c0]
      rw [le_i, e3, c16] at h2
      split <;> omega
  · have he := ends_sz h
    rw [if_neg h]
    have e2 : ((16 : Int32) - rL_bytesOf k).toInt = 16 - lsz k := by rw [sub_i (by rw [c16]; omega) (by rw [c16]; omega), c16, hz]
    rw [nw_i (by omega) (by omega) q0 (by omega), e2]
    split <;> omega
theorem sA_n4 {a : Nat → Nat → Int32} {u v x y : Nat → Int32} {k l : Nat} (h : k ≠ l) : sA (sA (sA (sA a u k) v l) x k) y l = sA (sA a x k) y l := by
  funext q
  unfold sA
  cases h1 : Nat.beq q l <;> cases h2 : Nat.beq q k <;> rfl
theorem sA_n3 {a : Nat → Nat → Int32} {u v x : Nat → Int32} {k l : Nat} (h : k ≠ l) : sA (sA (sA a u k) v l) x k = sA (sA a x k) v l := by
  funext q
  unfold sA
  cases h1 : Nat.beq q l <;> cases h2 : Nat.beq q k
  · rfl
  · rfl
  · rfl
  · exact absurd ((Nat.eq_of_beq_eq_true h2).symm.trans (Nat.eq_of_beq_eq_true h1)) h
theorem kindw {i : Nat → Int32} {a : Nat → Nat → Int32} {p : Int32} (h0 : 0 ≤ p.toInt) (h1 : p.toInt < (i 1).toInt) (h2 : (i 1).toInt ≤ 20) : rP_kindAt_w i a p = a 0 p.toNatClampNeg ∧ rP_firstAt_w i a p = a 1 p.toNatClampNeg ∧ rP_secondAt_w i a p = a 2 p.toNatClampNeg ∧ rP_thirdAt_w i a p = a 3 p.toNatClampNeg := by
  unfold rP_kindAt_w rP_firstAt_w rP_secondAt_w rP_thirdAt_w
  rw [has_1 h0 h1 h2]
  exact ⟨rfl, rfl, rfl, rfl⟩
theorem aim1 {j : Nat → Int32} {c : Nat → Nat → Int32} {t : Int32} (h3 : (j 0).toInt ≤ 20) : ∀ (f : Nat) (n : Int32), 0 ≤ n.toInt → ((j 0).toInt - n.toInt).toNat < f → rZ_isAimed_l f j c t 1 n = 1 := by
  intro f
  induction f with
  | zero => intro n _ h; exact absurd h (Nat.not_lt_zero _)
  | succ f ih =>
    intro n h0 hf
    rw [rZ_isAimed_l]
    by_cases h : j 0 ≤ n
    · rw [if_pos h]
    · rw [if_neg h, if_neg (by decide)]
      rw [le_i] at h
      have e1 : (n + 1).toInt = n.toInt + 1 := addc c1 (by omega) (by omega)
      exact ih (n + 1) (by omega) (by omega)
theorem aim_l {i : Nat → Int32} {a : Nat → Nat → Int32} {j : Nat → Int32} {c : Nat → Nat → Int32} (p1 : i 1 = j 0) (p3 : (i 1).toInt ≤ 20) (q0 : a 0 = c 0) (q2 : a 2 = c 2) (t : Int32) : ∀ (f : Nat) (n : Int32), 0 ≤ n.toInt → ((i 1).toInt - n.toInt).toNat < f → rP_isAddressTaken_l f i a t n = rZ_isAimed_l f j c t 0 n := by
  intro f
  induction f with
  | zero => intro n _ h; exact absurd h (Nat.not_lt_zero _)
  | succ f ih =>
    intro n h0 hf
    rw [rP_isAddressTaken_l, rZ_isAimed_l, ← p1]
    by_cases h : i 1 ≤ n
    · rw [if_pos h, if_pos h]
    · rw [if_neg h, if_neg h, if_pos (show (0 : Int32) = 0 from rfl)]
      rw [le_i] at h
      have e1 : (n + 1).toInt = n.toInt + 1 := addc c1 (by omega) (by omega)
      obtain ⟨k0, -, k2, -⟩ := kindw (i := i) (a := a) h0 (by omega) p3
      rw [k0, k2, q0, q2, ih (n + 1) (by omega) (by omega), aim1 (j := j) (by rw [← p1]; exact p3) f (n + 1) (by omega) (by rw [← p1]; omega)]
theorem aim_eq {i : Nat → Int32} {a : Nat → Nat → Int32} {j : Nat → Int32} {c : Nat → Nat → Int32} (p1 : i 1 = j 0) (p3 : (i 1).toInt ≤ 20) (q0 : a 0 = c 0) (q2 : a 2 = c 2) (t : Int32) : rP_isAddressTaken i a t = rZ_isAimed j c t := by
  unfold rP_isAddressTaken rZ_isAimed
  rw [aim_l p1 p3 q0 q2 t _ 0 (by decide) (by rw [c0]; omega), p1]

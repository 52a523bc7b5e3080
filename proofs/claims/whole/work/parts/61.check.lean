/-! check: class and reference alike -/
theorem pl_tree {D E M N C : Prop} [Decidable D] [Decidable E] [Decidable M] [Decidable N] [Decidable C] (h : E ↔ ¬ D) : (if D then (1 : Int32) else if (if M then (1 : Int32) else if N then (1 : Int32) else if (if C then (1 : Int32) else 0) = 0 then (0 : Int32) else 1) = 0 then (0 : Int32) else 1) = (if (if E then (if M then (0 : Int32) else if N then (0 : Int32) else if C then (0 : Int32) else 1) else 0) = 0 then (1 : Int32) else 0) := by
  by_cases h1 : D <;> by_cases h2 : M <;> by_cases h3 : N <;> by_cases h4 : C <;> simp [h, h1, h2, h3, h4]
theorem pl_tree4 {D E F M N C : Prop} [Decidable D] [Decidable E] [Decidable F] [Decidable M] [Decidable N] [Decidable C] (h : E ↔ ¬ D) : (if D then (1 : Int32) else if (if F then (1 : Int32) else if M then (1 : Int32) else if N then (1 : Int32) else if (if C then (1 : Int32) else 0) = 0 then (0 : Int32) else 1) = 0 then (0 : Int32) else 1) = (if (if E then (if F then (if M then (0 : Int32) else if N then (0 : Int32) else if C then (0 : Int32) else 0) else if M then (0 : Int32) else if N then (0 : Int32) else if C then (0 : Int32) else 1) else 0) = 0 then (1 : Int32) else 0) := by
  by_cases h1 : D <;> by_cases h0 : F <;> by_cases h2 : M <;> by_cases h3 : N <;> by_cases h4 : C <;> simp [h, h0, h1, h2, h3, h4]
/-- a kind that may not have d reserved: T says whether the rest is right -/
theorem ds_tree {D E M N C : Prop} [Decidable D] [Decidable E] [Decidable M] [Decidable N] [Decidable C] (h : E ↔ D) (h2 : ¬ M) (h3 : ¬ N) (h4 : ¬ C) {A A' : Int32} (hA : ¬ D → A = A') : (if D then (0 : Int32) else A) = (if (if E then (if M then (0 : Int32) else if N then (0 : Int32) else if C then (0 : Int32) else 1) else 0) = 0 then A' else 0) := by
  by_cases h1 : D
  · simp [h, h1, h2, h3, h4]
  · simp [h, h1, h2, h3, h4, hA h1]
theorem if_10 (x : Int32) (h : x = 0 ∨ x = 1) : (if x = 0 then (0 : Int32) else 1) = x := by
  rcases h with e | e <;> subst e <;> decide
theorem c27 : (27 : Int32).toInt = 27 := rfl
set_option maxRecDepth 100000 in
theorem safe_eq {i : Nat → Int32} {a : Nat → Nat → Int32} {j : Nat → Int32} {c : Nat → Nat → Int32} {B u u' : Nat → Int32} {S : Nat} (k1 : i 5 = j 3) (hB : ∀ p : Int32, 0 ≤ p.toInt → p.toInt < 256 → rZ_bitsAt j c p = B p.toNatClampNeg) (hS : (i 5).toInt = S) (s0 : 48 < S) (s1 : S ≤ 256) (hc : CH B u' S) (hx : XA B u u' S) {p : Int32} {P : Nat} (hp : p.toInt = P) (P0 : 48 ≤ P) (P1 : P < S) (hu : ¬ u' P = 0) : rK_isSafe i (sA a u 13) p (B P) = rZ_right j (sA c u' 12) p := by
  have ht : p.toNatClampNeg = P := by have := tn_of (x := p) (by omega); omega
  have hb : rZ_bitsAt j (sA c u' 12) p = B P := by rw [← ht]; exact hB p (by omega) (by omega)
  have hf := fenced_eq (a := a) hB hS s1 hc hx hp P0 P1 hu
  have hm := coded_eq (a := a) hB hS s1 hc hx hp P0 P1 hu
  have hl := lands_eq (a := a) k1 hB hS s0 s1 hc hx
  have hkn := (hc P (by omega) hu).2.2.2.1
  unfold rK_isSafe rZ_right
  simp only [hb, ← kind_eq, hf, hm, hl]
  have hi1 := zoZ_isBefore j (sA c u' 12) p (rZ_made 3 31 31 28) 0
  have hi2 := zoZ_isBefore j (sA c u' 12) (rZ_before j (sA c u' 12) p) (rZ_made 2 31 31 29) 0
  have hi3 := zoZ_isBefore j (sA c u' 12) p (rZ_made 2 31 0 27) 1
  have hl2 := zoZ_lands j (sA c u' 12)
  generalize rZ_isBefore j (sA c u' 12) p (rZ_made 3 31 31 28) 0 = b1 at *
  generalize rZ_isBefore j (sA c u' 12) (rZ_before j (sA c u' 12) p) (rZ_made 2 31 31 29) 0 = b2 at *
  generalize rZ_isBefore j (sA c u' 12) p (rZ_made 2 31 0 27) 1 = b3 at *
  clear hf hm hl hb
  generalize B P = w at *
  unfold rZ_spoils rK_mayChangeReserved
  simp only [cmk_eq, md_mask, md_base, md_code]
  have n1 : ¬ rF_kindOf w = 2 → ¬ w = 31457203 := fun h e => h (by rw [e]; exact kd_mask)
  have n2 : ¬ rF_kindOf w = 3 → ¬ w = 30404531 := fun h e => h (by rw [e]; exact kd_base)
  have n3 : ¬ rF_kindOf w = 2 → ¬ w &&& -1015809 = 28344243 := fun h e => h (cm_kind e)
  have hd : (27 : Int32) ≤ (w >>> ((7 : Int32) &&& 31)) &&& 31 ↔ ¬ (w >>> ((7 : Int32) &&& 31)) &&& 31 ≤ 26 := by
    rw [le_i, le_i, c27, c26]; omega
  have hd2 : (27 : Int32) ≤ (w >>> ((7 : Int32) &&& 31)) &&& 31 ↔ (26 : Int32) < (w >>> ((7 : Int32) &&& 31)) &&& 31 := by
    rw [le_i, lt_i, c27, c26]; omega
  have hkr := kind_rng w
  generalize rF_kindOf w = k at *
  rcases hkr with e | ⟨e0, e1⟩
  · exact absurd e hkn
  · simp only [first_eq e0 e1, second_eq e0 e1, third_eq e0 e1]
    have hfA : ∀ k : Int32, ¬ k = 7 → k < 8 ∨ 10 < k → rZ_fieldA k w = (w >>> ((7 : Int32) &&& 31)) &&& 31 := by
      intro k h1 h2
      unfold rZ_fieldA
      rw [if_neg h1]
      by_cases h3 : k < 8
      · rw [if_pos h3]
      · rw [if_neg h3, if_pos (h2.resolve_left h3)]
    rcases k_cases e0 e1 with e | e | e | e | e | e | e | e | e | e | e | e | e | e | e <;> subst e <;> simp (config := { decide := true }) only [if_true, if_false]
    · rw [hfA 0 (by decide) (by decide)]; exact pl_tree hd
    · rw [hfA 1 (by decide) (by decide)]; exact pl_tree hd
    · rw [hfA 2 (by decide) (by decide)]; exact pl_tree hd
    · rw [hfA 3 (by decide) (by decide)]; exact pl_tree hd
    · rw [hfA 4 (by decide) (by decide)]; exact pl_tree4 hd
    · rw [hfA 5 (by decide) (by decide)]; exact pl_tree hd
    · rw [hfA 6 (by decide) (by decide)]
      refine ds_tree hd2 (n1 (by decide)) (n2 (by decide)) (n3 (by decide)) (fun _ => ?_)
      rcases hi1 with e | e <;> rcases hi2 with e' | e' <;> subst e <;> subst e' <;> simp
    · rcases hi1 with e | e <;> rcases hi2 with e' | e' <;> subst e <;> subst e' <;> simp
    · exact (if_10 _ (hl2 _)).symm
    · exact (if_10 _ (hl2 _)).symm
    · exact (if_10 _ (hl2 _)).symm
    · rw [hfA 11 (by decide) (by decide)]
      exact ds_tree hd2 (n1 (by decide)) (n2 (by decide)) (n3 (by decide)) (fun _ => rfl)
    · rw [hfA 12 (by decide) (by decide)]
      exact ds_tree hd2 (n1 (by decide)) (n2 (by decide)) (n3 (by decide)) (fun _ => rfl)
    · rw [hfA 13 (by decide) (by decide)]; exact pl_tree hd
    · rw [hfA 14 (by decide) (by decide)]; exact pl_tree hd
theorem uns {i : Nat → Int32} {a : Nat → Nat → Int32} {j : Nat → Int32} {c : Nat → Nat → Int32} {B u u' : Nat → Int32} {S : Nat} (k1 : i 5 = j 3) (hB : ∀ p : Int32, 0 ≤ p.toInt → p.toInt < 256 → rZ_bitsAt j c p = B p.toNatClampNeg) (hS : (i 5).toInt = S) (s0 : 48 < S) (s1 : S ≤ 256) (s2 : S % 16 = 0) (hc : CH B u' S) (hx : XA B u u' S) : ∀ (d f f' n : Nat) (p : Int32), S - n ≤ d → p.toInt = n → 48 ≤ n → n ≤ S → n % 2 = 0 → S - n < f → S - n < f' → rK_firstUnsafe_l f i (sA a u 13) p = rZ_check_3 f' j (sA c u' 12) p := by
  intro d
  induction d with
  | zero =>
    intro f f' n p hd hp h0 h1 h2 hf hf'
    obtain ⟨f, rfl⟩ : ∃ q, f = q + 1 := ⟨f - 1, by omega⟩
    obtain ⟨f', rfl⟩ : ∃ q, f' = q + 1 := ⟨f' - 1, by omega⟩
    unfold rK_firstUnsafe_l rZ_check_3
    have g1 : i 5 ≤ p := by rw [le_i]; omega
    rw [← k1, if_pos g1, if_pos g1]
  | succ d ih =>
    intro f f' n p hd hp h0 h1 h2 hf hf'
    obtain ⟨f, rfl⟩ : ∃ q, f = q + 1 := ⟨f - 1, by omega⟩
    obtain ⟨f', rfl⟩ : ∃ q, f' = q + 1 := ⟨f' - 1, by omega⟩
    by_cases en : n = S
    · unfold rK_firstUnsafe_l rZ_check_3
      have g1 : i 5 ≤ p := by rw [le_i]; omega
      rw [← k1, if_pos g1, if_pos g1]
    · obtain ⟨f', rfl⟩ : ∃ q, f' = q + 1 := ⟨f' - 1, by omega⟩
      have ht : p.toNatClampNeg = n := by have := tn_of (x := p) (by omega); omega
      have g1 : ¬ i 5 ≤ p := by rw [le_i]; omega
      have a1 : (p + 1).toInt = p.toInt + 1 := addc c1 (by omega) (by omega)
      have a2 : (p + 2).toInt = p.toInt + 2 := addc c2 (by omega) (by omega)
      have a3 : p + 1 + 1 = p + 2 := by
        apply Int32.toInt_inj.mp
        rw [addc c1 (by omega) (by omega), a1, a2]; omega
      have t1 : (p + 1).toNatClampNeg = n + 1 := by have := tn_of (x := p + 1) (by omega); omega
      have z1 : u' (n + 1) = 0 := Classical.byContradiction fun hz => by
        have := (hc (n + 1) (by omega) hz).2.2.1
        omega
      have sk : rZ_check_3 (f' + 1) j (sA c u' 12) (p + 1) = rZ_check_3 f' j (sA c u' 12) (p + 2) := by
        rw [rZ_check_3]
        rw [← k1, if_neg (show ¬ i 5 ≤ p + 1 by rw [le_i]; omega), sA_eq, t1, if_pos z1, a3]
      have hrec := ih f f' (n + 2) (p + 2) (by omega) (by omega) (by omega) (by omega) (by omega) (by omega) (by omega)
      rw [rK_firstUnsafe_l, rZ_check_3]
      rw [sk, ← k1, if_neg g1, if_neg g1, sA_eq, bgn hS s1 hc hx, ht]
      by_cases hz : u' n = 0
      · rw [if_neg (show ¬ (48 ≤ p.toInt ∧ p.toInt < S ∧ ¬ u' n = 0) from fun q => q.2.2 hz), if_pos rfl, if_pos hz]
        exact hrec
      · rw [if_pos (show 48 ≤ p.toInt ∧ p.toInt < S ∧ ¬ u' n = 0 from ⟨by omega, by omega, hz⟩), if_neg (nz_B hc (by omega) hz), if_neg hz, safe_eq k1 hB hS s0 s1 hc hx hp h0 (by omega) hz, hrec]
theorem zer {j : Nat → Int32} {c : Nat → Nat → Int32} : ∀ (f : Nat) (g : Nat → Int32) (n : Nat) (p : Int32), p.toInt = n → n ≤ 256 → 256 - n < f → ∃ g2 : Nat → Int32, rZ_check_1 f j (sA c g 12) p = rZ_check_2 ((Int32.toInt (j 3) - Int32.toInt (48 : Int32)).toNat + 1) j (sA c g2 12) 48 ∧ aZ_check_1 f j (sA c g 12) p = aZ_check_2 ((Int32.toInt (j 3) - Int32.toInt (48 : Int32)).toNat + 1) j (sA c g2 12) 48 ∧ (∀ m : Nat, m < n → g2 m = g m) ∧ ∀ m : Nat, n ≤ m → m < 256 → g2 m = 0 := by
  intro f
  induction f with
  | zero => intro g n p _ _ h; exact absurd h (Nat.not_lt_zero _)
  | succ f ih =>
    intro g n p hp h1 hf
    rw [rZ_check_1, aZ_check_1]
    by_cases hk : (256 : Int32) ≤ p
    · rw [if_pos hk, if_pos hk]
      rw [le_i, c256] at hk
      exact ⟨g, rfl, rfl, fun _ _ => rfl, fun m m1 m2 => by omega⟩
    · rw [if_neg hk, if_neg hk, sA_sA, sA_eq]
      rw [le_i, c256] at hk
      have ht : p.toNatClampNeg = n := by have := tn_of (x := p) (by omega); omega
      obtain ⟨g2, r1, r2, r3, r4⟩ := ih (upd g p.toNatClampNeg (vp_nar .boolean 0)) (n + 1) (p + 1) (by rw [addc c1 (by omega) (by omega)]; omega) (by omega) (by omega)
      refine ⟨g2, r1, r2, fun m m1 => ?_, fun m m1 m2 => ?_⟩
      · rw [r3 m (by omega), upd_ne _ _ (by omega)]
      · by_cases e : m = n
        · rw [r3 m (by omega), e, ht, upd_at]; rfl
        · exact r4 m (by omega) m2
theorem of_tn {p : Int32} (h : 0 ≤ p.toInt) : Int32.ofNat p.toNatClampNeg = p := by
  apply Int32.toInt_inj.mp
  have h1 := Int32.toInt_lt p
  have h2 := tn_of h
  rw [Int32.toInt_ofNat_of_lt (by omega), h2]
theorem check_eq {i : Nat → Int32} {a : Nat → Nat → Int32} {j : Nat → Int32} {c : Nat → Nat → Int32} (hC : IvC i a j c) : rX_check i a = rZ_check j c ∧ ∃ u u' : Nat → Int32, aX_check i a = sA a u 13 ∧ aZ_check j c = sA c u' 12 := by
  have k1 := hC.1
  have k2 := hC.2.1
  have k3 := hC.2.2.1
  unfold rX_check aX_check rK_firstWrong aK_firstWrong rZ_check aZ_check
  rw [← k1]
  by_cases h1 : i 5 - i 5 / 16 * 16 = 0
  · by_cases h2 : i 5 ≤ 48
    · have h3 : ¬ (48 : Int32) < i 5 := by rw [lt_i]; rw [le_i] at h2; omega
      simp only [if_pos h1, if_pos h2, if_neg h3]
      exact ⟨trivial, a 13, c 12, sA_self.symm, sA_self.symm⟩
    · have h3 : (48 : Int32) < i 5 := by rw [lt_i]; rw [le_i] at h2; omega
      simp only [if_pos h1, if_neg h2, if_pos h3]
      have er := rem16_i (i 5)
      rw [if_pos k2, h1, c0] at er
      rw [le_i, c48] at h2
      obtain ⟨S, hS⟩ : ∃ S : Nat, (i 5).toInt = S := ⟨(i 5).toInt.toNat, by omega⟩
      obtain ⟨B, hB⟩ : ∃ B : Nat → Int32, ∀ p : Int32, 0 ≤ p.toInt → p.toInt < 256 → rZ_bitsAt j c p = B p.toNatClampNeg := by
        refine ⟨fun m => rZ_bitsAt j c (Int32.ofNat m), ?_⟩
        intro p p0 p1
        show _ = rZ_bitsAt j c (Int32.ofNat p.toNatClampNeg)
        rw [of_tn p0]
      obtain ⟨g2, r1, r2, r3, r4⟩ := zer (j := j) (c := c) (((256 : Int32).toInt - Int32.toInt (0 : Int32)).toNat + 1) (c 12) 0 0 rfl (by decide) (by decide)
      rw [sA_self] at r1 r2
      rw [r1, r2]
      have hb := brk hC hB hS (by omega) (by omega) (by omega) 256 (((256 : Int32).toInt - Int32.toInt (48 : Int32)).toNat + 1) ((Int32.toInt (j 3) - Int32.toInt (48 : Int32)).toNat + 1) 48 48 (a 13) g2 (by omega) rfl (by omega) (by omega) (by omega) (fun m m1 m2 => absurd (r4 m (by omega) m1) m2) (fun m m1 m2 => by omega) (by decide) (by rw [← k1, c48]; omega)
      rw [sA_self] at hb
      unfold rK_firstBroken aK_firstBroken
      rcases hb with ⟨q1, q2, ⟨u, q3⟩, ⟨u', q4⟩⟩ | ⟨u, u', q1, q2, q3, q4, q5, q6⟩
      · simp only [if_neg q1, q2, q3, q4]
        exact ⟨trivial, u, u', rfl, rfl⟩
      · simp only [if_pos q1, q2, q3, q4]
        refine ⟨?_, u, u', rfl, rfl⟩
        unfold rK_firstUnsafe
        exact uns k1 hB hS (by omega) (by omega) (by omega) q5 q6 256 _ _ 48 48 (by omega) rfl (by omega) (by omega) (by omega) (by rw [c48]; omega) (by rw [← k1, c48]; omega)
  · by_cases h2 : i 5 ≤ 48
    · simp only [if_neg h1, if_pos h2]
      exact ⟨trivial, a 13, c 12, sA_self.symm, sA_self.symm⟩
    · simp only [if_neg h1, if_neg h2]
      exact ⟨trivial, a 13, c 12, sA_self.symm, sA_self.symm⟩
theorem op_check : OPK Inv sX_check sZ_check [] := by
  intro i a j c h
  obtain ⟨hP, hB, hC, hI, hM, hT⟩ := id h
  have k1 := hC.1
  have k2 := hC.2.1
  have k3 := hC.2.2.1
  obtain ⟨e, u, u', e1, e2⟩ := check_eq hC
  refine op_of (eX_check i a _ (by omega)) (eZ_check j c _ _ (by rw [← k1]; exact k2) (by rw [← k1]; exact k3)) e ?_
  rw [e1, e2]
  exact ⟨hP, hB, hC, hI, hM, hT⟩

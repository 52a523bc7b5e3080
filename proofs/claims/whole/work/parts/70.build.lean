/-! build: class and reference alike -/
theorem b2_l {j : Nat → Int32} {c : Nat → Nat → Int32} {t : Int32} {N : Nat} (hN : (j 0).toInt = N) (h20 : N ≤ 20) : ∀ (f n : Nat) (p : Int32) (h8 : Nat → Int32), p.toInt = n → n ≤ N + 1 → N + 1 - n < f → ∃ H8 : Nat → Int32, rZ_build_2 f j (sA c h8 8) t p = rZ_build_3 (((48 : Int32).toInt - Int32.toInt (0 : Int32)).toNat + 1) j (sA c H8 8) t 0 ∧ iZ_build_2 f j (sA c h8 8) t p = iZ_build_3 (((48 : Int32).toInt - Int32.toInt (0 : Int32)).toNat + 1) j (sA c H8 8) t 0 ∧ aZ_build_2 f j (sA c h8 8) t p = aZ_build_3 (((48 : Int32).toInt - Int32.toInt (0 : Int32)).toNat + 1) j (sA c H8 8) t 0 ∧ (∀ m : Nat, m < n → H8 m = h8 m) ∧ ∀ m : Nat, n ≤ m → m ≤ N → H8 m = c 10 m := by
  intro f
  induction f with
  | zero => intro n p h8 _ _ h; exact absurd h (Nat.not_lt_zero _)
  | succ f ih =>
    intro n p h8 hp h1 hf
    rw [rZ_build_2, iZ_build_2, aZ_build_2]
    by_cases h : j 0 < p
    · rw [if_pos h, if_pos h, if_pos h]
      rw [lt_i] at h
      exact ⟨h8, rfl, rfl, rfl, fun _ _ => rfl, fun m m1 m2 => by omega⟩
    · rw [if_neg h, if_neg h, if_neg h]
      rw [lt_i] at h
      have tp : p.toNatClampNeg = n := tn_v hp
      have e5 : (p + 1).toInt = ((n + 1 : Nat) : Int) := by rw [addc c1 (by omega) (by omega)]; omega
      have e10 : (sA c h8 8) 10 = c 10 := rfl
      rw [sA_sA, sA_eq, tp, e10]
      obtain ⟨H8, r1, r2, r3, r4, r5⟩ := ih (n + 1) (p + 1) (upd h8 n (c 10 n)) e5 (by omega) (by omega)
      refine ⟨H8, r1, r2, r3, fun m hm => ?_, fun m m1 m2 => ?_⟩
      · rw [r4 m (by omega), upd_ne _ _ (by omega)]
      · by_cases e : m = n
        · rw [r4 m (by omega), e, upd_at]
        · exact r5 m (by omega) m2
theorem b3_l {j : Nat → Int32} {c : Nat → Nat → Int32} {t : Int32} : ∀ (f n : Nat) (p : Int32) (g : Nat → Int32), p.toInt = n → n ≤ 48 → 48 - n < f → ∃ G : Nat → Int32, rZ_build_3 f j (sA c g 11) t p = rZ_build_4 ((Int32.toInt (j 0) - Int32.toInt (0 : Int32)).toNat + 1) (sI j 48 4) (sA c G 11) t 0 ∧ iZ_build_3 f j (sA c g 11) t p = iZ_build_4 ((Int32.toInt (j 0) - Int32.toInt (0 : Int32)).toNat + 1) (sI j 48 4) (sA c G 11) t 0 ∧ aZ_build_3 f j (sA c g 11) t p = aZ_build_4 ((Int32.toInt (j 0) - Int32.toInt (0 : Int32)).toNat + 1) (sI j 48 4) (sA c G 11) t 0 ∧ (∀ m : Nat, m < n → G m = g m) ∧ ∀ m : Nat, n ≤ m → m < 48 → G m = 0 := by
  intro f
  induction f with
  | zero => intro n p g _ _ h; exact absurd h (Nat.not_lt_zero _)
  | succ f ih =>
    intro n p g hp h1 hf
    rw [rZ_build_3, iZ_build_3, aZ_build_3]
    by_cases h : (48 : Int32) ≤ p
    · rw [if_pos h, if_pos h, if_pos h]
      rw [le_i, c48] at h
      exact ⟨g, rfl, rfl, rfl, fun _ _ => rfl, fun m m1 m2 => by omega⟩
    · rw [if_neg h, if_neg h, if_neg h]
      rw [le_i, c48] at h
      have tp : p.toNatClampNeg = n := tn_v hp
      have e5 : (p + 1).toInt = ((n + 1 : Nat) : Int) := by rw [addc c1 (by omega) (by omega)]; omega
      rw [sA_sA, sA_eq, tp]
      obtain ⟨G, r1, r2, r3, r4, r5⟩ := ih (n + 1) (p + 1) (upd g n 0) e5 (by omega) (by omega)
      refine ⟨G, r1, r2, r3, fun m hm => ?_, fun m m1 m2 => ?_⟩
      · rw [r4 m (by omega), upd_ne _ _ (by omega)]
      · by_cases e : m = n
        · rw [r4 m (by omega), e, upd_at]
        · exact r5 m (by omega) m2
/-- a line's target is one -/
def TG (N k b c : Int32) : Prop := (k = 8 ∨ k = 9 ∨ k = 10 → c.toInt ≤ N.toInt) ∧ (k = 11 → b.toInt ≤ N.toInt) ∧ (k = 16 → b.toInt ≤ N.toInt)
theorem tg_x {i : Nat → Int32} {a : Nat → Nat → Int32} {p : Int32} (h0 : 0 ≤ p.toInt) (h1 : p.toInt < (i 1).toInt) (h2 : (i 1).toInt ≤ 20) (al : ¬ rP_allows (a 0 p.toNatClampNeg) (a 1 p.toNatClampNeg) (a 2 p.toNatClampNeg) (a 3 p.toNatClampNeg) = 0) : rP_targetOf i a p ≤ i 1 ↔ TG (i 1) (a 0 p.toNatClampNeg) (a 2 p.toNatClampNeg) (a 3 p.toNatClampNeg) := by
  obtain ⟨k0, k1, k2, k3⟩ := kindw (i := i) (a := a) h0 h1 h2
  unfold rP_targetOf TG
  rw [k0, k2, k3]
  generalize a 0 p.toNatClampNeg = k at *
  generalize a 2 p.toNatClampNeg = y at *
  generalize a 3 p.toNatClampNeg = z at *
  have hz : (0 : Int32) ≤ i 1 := by rw [le_i, c0]; omega
  rcases al_k al with e | e | e | e | e | e | e | e | e | e | e | e | e | e | e | e | e <;> subst e <;> simp (config := { decide := true }) only [if_true, if_false, false_imp_iff, true_imp_iff, and_true, true_and, hz, le_i]
  all_goals first | rfl | (rw [c0]; constructor <;> intro _ <;> first | trivial | omega)
theorem tg_z {j : Nat → Int32} {c : Nat → Nat → Int32} {p : Int32} {x : Int32} (h0 : 0 ≤ (j 0).toInt) (al : ¬ rP_allows (c 0 p.toNatClampNeg) x (c 2 p.toNatClampNeg) (c 3 p.toNatClampNeg) = 0) : rZ_targetOf j c p ≤ j 0 ↔ TG (j 0) (c 0 p.toNatClampNeg) (c 2 p.toNatClampNeg) (c 3 p.toNatClampNeg) := by
  unfold rZ_targetOf TG
  generalize c 0 p.toNatClampNeg = k at *
  generalize c 2 p.toNatClampNeg = y at *
  generalize c 3 p.toNatClampNeg = z at *
  have hz : (-1 : Int32) ≤ j 0 := by rw [le_i, show (-1 : Int32).toInt = -1 from rfl]; omega
  rcases al_k al with e | e | e | e | e | e | e | e | e | e | e | e | e | e | e | e | e <;> subst e <;> simp (config := { decide := true }) only [if_true, if_false, false_imp_iff, true_imp_iff, and_true, true_and, hz, le_i]
  all_goals first | rfl | (rw [show (-1 : Int32).toInt = -1 from rfl]; constructor <;> intro _ <;> first | trivial | omega)
theorem b1_l {i : Nat → Int32} {a : Nat → Nat → Int32} {j : Nat → Int32} {c : Nat → Nat → Int32} (p1 : i 1 = j 0) (p3 : (i 1).toInt ≤ 20) (q0 : a 0 = c 0) (q1 : a 1 = c 1) (q2 : a 2 = c 2) (q3 : a 3 = c 3) {N : Nat} (hN : (i 1).toInt = N) (al : ∀ m : Nat, m < N → ¬ rP_allows (c 0 m) (c 1 m) (c 2 m) (c 3 m) = 0) : ∀ (f n : Nat) (p : Int32), p.toInt = n → n ≤ N → N - n < f →
    (rP_targetsExist_l f i a p = 0 ∧ rZ_build_1 f j c p = -1 ∧ iZ_build_1 f j c p = j ∧ aZ_build_1 f j c p = c) ∨
    (rP_targetsExist_l f i a p = 1 ∧ rZ_build_1 f j c p = (if rZ_layOut j c ≤ 256 then rZ_build_2 ((Int32.toInt (j 0) + 1 - Int32.toInt (0 : Int32)).toNat + 1) j (aZ_layOut j c) (rZ_layOut j c) 0 else -2) ∧ iZ_build_1 f j c p = (if rZ_layOut j c ≤ 256 then iZ_build_2 ((Int32.toInt (j 0) + 1 - Int32.toInt (0 : Int32)).toNat + 1) j (aZ_layOut j c) (rZ_layOut j c) 0 else j) ∧ aZ_build_1 f j c p = (if rZ_layOut j c ≤ 256 then aZ_build_2 ((Int32.toInt (j 0) + 1 - Int32.toInt (0 : Int32)).toNat + 1) j (aZ_layOut j c) (rZ_layOut j c) 0 else aZ_layOut j c) ∧ ∀ m : Nat, n ≤ m → m < N → TG (i 1) (c 0 m) (c 2 m) (c 3 m)) := by
  intro f
  induction f with
  | zero => intro n p _ _ h; exact absurd h (Nat.not_lt_zero _)
  | succ f ih =>
    intro n p hp h1 hf
    rw [rP_targetsExist_l, rZ_build_1, iZ_build_1, aZ_build_1, ← p1]
    by_cases h : i 1 ≤ p
    · rw [if_pos h, if_pos h, if_pos h, if_pos h]
      rw [le_i] at h
      exact Or.inr ⟨rfl, rfl, rfl, rfl, fun m m1 m2 => by omega⟩
    · rw [if_neg h, if_neg h, if_neg h, if_neg h]
      rw [le_i] at h
      have tp : p.toNatClampNeg = n := tn_v hp
      have aln := al n (by omega)
      have e5 : (p + 1).toInt = ((n + 1 : Nat) : Int) := by rw [addc c1 (by omega) (by omega)]; omega
      have hx := tg_x (i := i) (a := a) (p := p) (by omega) (by omega) p3 (by rw [tp, q0, q1, q2, q3]; exact aln)
      have hz := tg_z (j := j) (c := c) (p := p) (x := c 1 n) (by rw [← p1]; omega) (by rw [tp]; exact aln)
      rw [tp, q0, q2, q3] at hx
      rw [tp, ← p1] at hz
      by_cases ht : TG (i 1) (c 0 n) (c 2 n) (c 3 n)
      · rw [if_pos (hx.mpr ht), if_pos (hz.mpr ht), if_pos (hz.mpr ht), if_pos (hz.mpr ht)]
        rcases ih (n + 1) (p + 1) e5 (by omega) (by omega) with r | ⟨r1, r2, r3, r4, r5⟩
        · exact Or.inl r
        · rw [p1] at *
          refine Or.inr ⟨r1, r2, r3, r4, fun m m1 m2 => ?_⟩
          by_cases e : m = n
          · rw [e]; exact ht
          · exact r5 m (by omega) m2
      · rw [if_neg (fun z => ht (hx.mp z)), if_neg (fun z => ht (hz.mp z)), if_neg (fun z => ht (hz.mp z)), if_neg (fun z => ht (hz.mp z))]
        exact Or.inl ⟨rfl, rfl, rfl, rfl⟩
theorem cpy_at {f g : Nat → Int32} {n k : Nat} (h : k < n) : va_cpy f g 0 0 n k = f k := by
  unfold va_cpy
  rw [if_pos ⟨by omega, by omega⟩, Nat.zero_add, Nat.sub_zero]
theorem resz {i : Nat → Int32} {a : Nat → Nat → Int32} {p : Int32} (h0 : 0 ≤ p.toInt) (h1 : p.toInt ≤ 256) : iC_resize i a p = sI i p 5 ∧ ∃ g : Nat → Int32, aC_resize i a p = sA a g 12 ∧ ∀ m : Nat, (m < 256 → p.toInt ≤ m → g m = 0) ∧ ((m : Int) < p.toInt → g m = a 12 m) := by
  unfold iC_resize aC_resize
  rw [wt_eq, if_pos (show 0 ≤ p ∧ p ≤ 256 by rw [le_i, le_i, c0, c256]; exact ⟨h0, h1⟩), if_neg (by decide), if_neg (by decide)]
  exact (rs_l _ i a p p h0 (by rw [c256]; omega)).2
theorem build_eq {i : Nat → Int32} {a : Nat → Nat → Int32} {j : Nat → Int32} {c : Nat → Nat → Int32} (h : Inv i a j c) : rX_build i a = rZ_build j c ∧ Inv (iX_build i a) (aX_build i a) (iZ_build j c) (aZ_build j c) := by
  obtain ⟨⟨p1, p2, p3, q0, q1, q2, q3, hal⟩, hB, hC, hI, hM, hT⟩ := id h
  obtain ⟨N, hN⟩ : ∃ N : Nat, (i 1).toInt = N := ⟨(i 1).toInt.toNat, by omega⟩
  have al : ∀ m : Nat, m < N → ¬ rP_allows (c 0 m) (c 1 m) (c 2 m) (c 3 m) = 0 := fun m hm => by
    have := hal m (by omega)
    rw [q0, q1, q2, q3] at this
    exact this
  have j0 : (j 0).toInt = N := by rw [← p1]; exact hN
  obtain ⟨all, G4, G5, G9, G10, y1, y2, y3, y4, y5, y6, y7, y8, y9⟩ := lay p1 p3 q0 q1 q2 hN N (N + 1) ((Int32.toInt (j 0) + 1 - Int32.toInt (0 : Int32)).toNat + 1) 0 0 48 (a 4) (a 5) (c 9) (c 10) (by omega) rfl (by decide) (by decide) (by decide) (by omega) (by rw [c0]; omega)
  rw [sA_self, sA_self] at y1 y2 y3 y4 y5
  have eR : rL_place i a = all := by
    unfold rL_place
    rw [show (Int32.toInt (i 1) - Int32.toInt (0 : Int32)).toNat + 1 = N + 1 by rw [c0]; omega]
    exact y1
  have eI : iL_place i a = sI i all 2 := by
    unfold iL_place
    rw [show (Int32.toInt (i 1) - Int32.toInt (0 : Int32)).toNat + 1 = N + 1 by rw [c0]; omega]
    exact y2
  have eA : aL_place i a = sA (sA a G4 4) G5 5 := by
    unfold aL_place
    rw [show (Int32.toInt (i 1) - Int32.toInt (0 : Int32)).toNat + 1 = N + 1 by rw [c0]; omega]
    exact y3
  have zR : rZ_layOut j c = all := y4
  have zA : aZ_layOut j c = sA (sA c G10 10) G9 9 := y5
  have b1 := b1_l p1 p3 q0 q1 q2 q3 hN al ((Int32.toInt (i 1) - Int32.toInt (0 : Int32)).toNat + 1) 0 0 rfl (by omega) (by rw [c0]; omega)
  have ef : (Int32.toInt (j 0) - Int32.toInt (0 : Int32)).toNat + 1 = (Int32.toInt (i 1) - Int32.toInt (0 : Int32)).toNat + 1 := by rw [p1]
  unfold rX_build iX_build aX_build rZ_build iZ_build aZ_build rP_targetsExist
  rw [ef, eR, eI, eA]
  rcases b1 with ⟨r1, r2, r3, r4⟩ | ⟨r1, r2, r3, r4, r5⟩
  · rw [r1, r2, r3, r4, if_pos rfl, if_pos rfl, if_pos rfl]
    exact ⟨rfl, h⟩
  · rw [r1, r2, r3, r4, zR, zA]
    have n10 : ¬ (1 : Int32) = 0 := by decide
    simp only [if_neg n10]
    by_cases h256 : all ≤ 256
    · simp only [if_pos h256]
      rw [le_i, c256] at h256
      have hlt := CN_lt _ _ _ y9
      rw [c48] at hlt
      -- the reference's loops 2 and 3
      obtain ⟨H8, w1, w2, w3, w4, w5⟩ := b2_l (j := j) (c := sA (sA c G10 10) G9 9) (t := all) j0 (by omega) ((Int32.toInt (j 0) + 1 - Int32.toInt (0 : Int32)).toNat + 1) 0 0 ((sA (sA c G10 10) G9 9) 8) rfl (by omega) (by rw [c0]; omega)
      rw [sA_self] at w1 w2 w3
      obtain ⟨g', u1, u2, u3, u4, u5⟩ := b3_l (j := j) (c := sA (sA (sA c G10 10) G9 9) H8 8) (t := all) (((48 : Int32).toInt - Int32.toInt (0 : Int32)).toNat + 1) 0 0 ((sA (sA (sA c G10 10) G9 9) H8 8) 11) rfl (by omega) (by decide)
      rw [sA_self] at u1 u2 u3
      rw [w1, w2, w3, u1, u2, u3, zn_0]
      -- the class's copy and its code's new length
      unfold iR_writeAll aR_writeAll
      obtain ⟨z1, g1, z2, z3⟩ := resz (i := sI (iP_copyFrom (sI i all 2) (sA (sA a G4 4) G5 5)) 1 0) (a := aP_copyFrom (sI i all 2) (sA (sA a G4 4) G5 5)) (p := 0) (by decide) (by decide)
      rw [z1, z2]
      have e4 : (sI (sI (iP_copyFrom (sI i all 2) (sA (sA a G4 4) G5 5)) 1 0) 0 5) 4 = all := rfl
      rw [e4]
      obtain ⟨z4, g2, z5, z6⟩ := resz (i := sI (sI (iP_copyFrom (sI i all 2) (sA (sA a G4 4) G5 5)) 1 0) 0 5) (a := sA (aP_copyFrom (sI i all 2) (sA (sA a G4 4) G5 5)) g1 12) (p := all) (by omega) (by omega)
      rw [z4, z5, sA_sA, sI_sI]
      have hg2 : ∀ m : Nat, m < 256 → g2 m = 0 := by
        intro m hm
        by_cases hq : (m : Int) < all.toInt
        · rw [(z6 m).2 hq, sA_eq]
          exact (z3 m).1 hm (by rw [c0]; omega)
        · exact (z6 m).1 hm (by omega)
      have i3 : (sI (sI (sI (iP_copyFrom (sI i all 2) (sA (sA a G4 4) G5 5)) 1 0) all 5) 48 6) 3 = i 1 := rfl
      rw [i3]
      have hw := wal (i := sI (sI (iP_copyFrom (sI i all 2) (sA (sA a G4 4) G5 5)) 1 0) all 5) (a := aP_copyFrom (sI i all 2) (sA (sA a G4 4) G5 5)) (j := j) (c := sA (sA (sA c G10 10) G9 9) H8 8) (N := N) (al := all) hN (by omega) rfl rfl h256 j0 (fun m hm => ⟨by show va_cpy (a 0) (a 6) 0 0 20 m = c 0 m; rw [cpy_at (by omega), q0], by show va_cpy (a 1) (a 7) 0 0 20 m = c 1 m; rw [cpy_at (by omega), q1], by show va_cpy (a 2) (a 8) 0 0 20 m = c 2 m; rw [cpy_at (by omega), q2], by show va_cpy (a 3) (a 9) 0 0 20 m = c 3 m; rw [cpy_at (by omega), q3], by show va_cpy G5 (a 11) 0 0 20 m = G9 m; rw [cpy_at (by omega), y8 m (by omega) hm], al m hm, r5 m (by omega) hm⟩) (fun m hm => by show va_cpy G4 (a 10) 0 0 21 m = G10 m; rw [cpy_at (by omega), y7 m (by omega) hm]) (fun m hm => w5 m (by omega) hm) N ((Int32.toInt (i 1) - Int32.toInt (0 : Int32)).toNat + 1) ((Int32.toInt (j 0) - Int32.toInt (0 : Int32)).toNat + 1) 0 48 0 48 g2 g' ((sA (sA (sA c G10 10) G9 9) H8 8) 4) ((sA (sA (sA c G10 10) G9 9) H8 8) 5) ((sA (sA (sA c G10 10) G9 9) H8 8) 6) ((sA (sA (sA c G10 10) G9 9) H8 8) 7) (by omega) rfl rfl y9 ⟨fun m hm => by rw [hg2 m (by omega), u5 m (by omega) hm]; exact ⟨rfl, by decide, by decide⟩, fun m _ hm => hg2 m hm⟩ (by rw [c0]; omega) (by rw [c0]; omega) (fun m hm => by omega)
      obtain ⟨G, G', H4, H5, H6, H7, m1, m2, m3, m4, m5, m6, m7⟩ := hw
      rw [m1, m2, m3, m4, m5]
      refine ⟨rfl, ⟨p1, p2, p3, q0, q1, q2, q3, hal⟩, ⟨p1, p2, p3, rfl, fun e => absurd e (by show ¬ (1 : Int32) = 0; decide), fun n hn => ?_, fun n hn => ?_⟩, ⟨rfl, (show 0 ≤ all.toInt by omega), h256, fun n hn => ?_, fun n hn hn2 => ?_⟩, hI, hM, hT⟩
      · have hn : (n : Int) < (i 1).toInt := hn
        obtain ⟨e1, e2, e3, e4⟩ := m7 n (by omega)
        refine ⟨?_, ?_, ?_, ?_, ?_⟩
        · show va_cpy (a 0) (a 6) 0 0 20 n = H4 n
          rw [cpy_at (by omega), q0]; exact e1.symm
        · show va_cpy (a 1) (a 7) 0 0 20 n = H5 n
          rw [cpy_at (by omega), q1]; exact e2.symm
        · show va_cpy (a 2) (a 8) 0 0 20 n = H6 n
          rw [cpy_at (by omega), q2]; exact e3.symm
        · show va_cpy (a 3) (a 9) 0 0 20 n = H7 n
          rw [cpy_at (by omega), q3]; exact e4.symm
        · show BL (i 1) (H4 n) (H5 n) (H6 n) (H7 n)
          rw [e1, e2, e3, e4]
          exact ⟨al n (by omega), r5 n (by omega) (by omega)⟩
      · have hn : (n : Int) ≤ (i 1).toInt := hn
        show va_cpy G4 (a 10) 0 0 21 n = H8 n
        rw [cpy_at (by omega), y7 n (by omega) (by omega)]
        exact (w5 n (by omega) (by omega)).symm
      · have hn : (n : Int) < all.toInt := hn
        exact m6.1 n (by omega)
      · have hn : all.toInt ≤ (n : Int) := hn
        exact m6.2 n (by omega) hn2
    · simp only [if_neg h256]
      exact ⟨trivial, ⟨p1, p2, p3, q0, q1, q2, q3, hal⟩, hB, hC, hI, hM, hT⟩
theorem op_build : OPK Inv sX_build sZ_build [] := by
  intro i a j c h
  obtain ⟨e, hI⟩ := build_eq h
  obtain ⟨p1, p2, p3, q0, q1, q2, q3, hal⟩ := h.1
  refine op_of (eX_build i a _ p2) (eZ_build j c _ _ ⟨by rw [← p1]; exact p2, by rw [← p1]; exact p3, fun m hm => ?_⟩) e hI
  have := hal m (by rw [p1]; exact hm)
  rw [q0, q1, q2, q3] at this
  exact this

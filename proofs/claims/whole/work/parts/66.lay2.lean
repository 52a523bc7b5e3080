/-! build: the layout's loop, class and reference alike -/
/-- the layout from line n, place t on: d lines to come -/
def CN (A P K : Nat → Int32) (all : Int) : Nat → Nat → Int → Prop
  | 0, n, t => t % 2 = 0 ∧ t ≤ (A n).toInt ∧ (A n).toInt % 2 = 0 ∧ (¬ (A n).toInt = t → (A n).toInt % 16 = 0) ∧ all = (A n).toInt - (A n).toInt % 16 + 16
  | d + 1, n, t => t % 2 = 0 ∧ t ≤ (A n).toInt ∧ (A n).toInt % 2 = 0 ∧ (A n).toInt ≤ (P n).toInt ∧ (P n).toInt % 2 = 0 ∧ (¬ (A n).toInt = t → ((P n).toInt - (A n).toInt) % 4 = 0) ∧ CN A P K all d (n + 1) ((P n).toInt + lsz (K n))
theorem CN_lt {A P K : Nat → Int32} {all : Int} : ∀ (d n : Nat) (t : Int), CN A P K all d n t → t < all ∧ all % 2 = 0 ∧ t % 2 = 0 := by
  intro d
  induction d with
  | zero => intro n t h; obtain ⟨h1, h2, h3, h4, h5⟩ := h; omega
  | succ d ih =>
    intro n t h
    obtain ⟨h1, h2, h3, h4, h5, h6, h7⟩ := h
    have := ih _ _ h7
    omega
theorem zl_step {f : Nat} {j : Nat → Int32} {c : Nat → Nat → Int32} {t p : Int32} (h : ¬ j 0 ≤ p) (q0 : 0 ≤ t.toInt) (q1 : t.toInt ≤ 2000) (q2 : t.toInt % 2 = 0) : rZ_layOut_l (f + 1) j c t p = rZ_layOut_l f j (sA (sA c (upd (c 10) p.toNatClampNeg (tpF (rZ_isAimed j c p) t)) 10) (upd (c 9) p.toNatClampNeg (lpF (rL_endsBundle (c 0 p.toNatClampNeg) (c 1 p.toNatClampNeg)) (rL_bytesOf (c 0 p.toNatClampNeg)) (tpF (rZ_isAimed j c p) t))) 9) (lpF (rL_endsBundle (c 0 p.toNatClampNeg) (c 1 p.toNatClampNeg)) (rL_bytesOf (c 0 p.toNatClampNeg)) (tpF (rZ_isAimed j c p) t) + rL_bytesOf (c 0 p.toNatClampNeg)) (p + 1) ∧ aZ_layOut_l (f + 1) j c t p = aZ_layOut_l f j (sA (sA c (upd (c 10) p.toNatClampNeg (tpF (rZ_isAimed j c p) t)) 10) (upd (c 9) p.toNatClampNeg (lpF (rL_endsBundle (c 0 p.toNatClampNeg) (c 1 p.toNatClampNeg)) (rL_bytesOf (c 0 p.toNatClampNeg)) (tpF (rZ_isAimed j c p) t))) 9) (lpF (rL_endsBundle (c 0 p.toNatClampNeg) (c 1 p.toNatClampNeg)) (rL_bytesOf (c 0 p.toNatClampNeg)) (tpF (rZ_isAimed j c p) t) + rL_bytesOf (c 0 p.toNatClampNeg)) (p + 1) := by
  have hlt : ¬ j 0 < p := by rw [lt_i]; rw [le_i] at h; omega
  have hA := tp_f (m := rZ_isAimed j c p) q0 (by omega) q2
  have hz := bytes_i (c 0 p.toNatClampNeg)
  have hr := lsz_r (c 0 p.toNatClampNeg)
  have eA : (if rZ_isAimed j c p = 0 then t + 0 else t + rZ_rest t) = tpF (rZ_isAimed j c p) t := by
    unfold tpF
    rw [Int32.add_zero, nw0 q0 (by omega)]
  rw [rZ_layOut_l, aZ_layOut_l]
  simp only [if_neg h, if_neg hlt, size_of, ends_of]
  have aux : ∀ A : Int32, (if rZ_isAimed j c p = 0 then t + 0 else t + rZ_rest t) = A → 0 ≤ A.toInt → A.toInt ≤ 3000 → ∀ {α : Type} (F : Int32 → Int32 → α), (if rZ_isAimed j c p = 0 then (if rL_endsBundle (c 0 p.toNatClampNeg) (c 1 p.toNatClampNeg) = 0 then if ((t + 0) - (t + 0) / 16 * 16) + rL_bytesOf (c 0 p.toNatClampNeg) ≤ 16 then F (t + 0) ((t + 0) + 0) else F (t + 0) ((t + 0) + rZ_rest (t + 0)) else F (t + 0) ((t + 0) + rZ_rest ((t + 0) + rL_bytesOf (c 0 p.toNatClampNeg)))) else (if rL_endsBundle (c 0 p.toNatClampNeg) (c 1 p.toNatClampNeg) = 0 then if ((t + rZ_rest t) - (t + rZ_rest t) / 16 * 16) + rL_bytesOf (c 0 p.toNatClampNeg) ≤ 16 then F (t + rZ_rest t) ((t + rZ_rest t) + 0) else F (t + rZ_rest t) ((t + rZ_rest t) + rZ_rest (t + rZ_rest t)) else F (t + rZ_rest t) ((t + rZ_rest t) + rZ_rest ((t + rZ_rest t) + rL_bytesOf (c 0 p.toNatClampNeg))))) = F A (lpF (rL_endsBundle (c 0 p.toNatClampNeg) (c 1 p.toNatClampNeg)) (rL_bytesOf (c 0 p.toNatClampNeg)) A) := by
    intro A hAe A0 A1 α F
    have one : ∀ B : Int32, B = A → (if rL_endsBundle (c 0 p.toNatClampNeg) (c 1 p.toNatClampNeg) = 0 then if (B - B / 16 * 16) + rL_bytesOf (c 0 p.toNatClampNeg) ≤ 16 then F B (B + 0) else F B (B + rZ_rest B) else F B (B + rZ_rest (B + rL_bytesOf (c 0 p.toNatClampNeg)))) = F A (lpF (rL_endsBundle (c 0 p.toNatClampNeg) (c 1 p.toNatClampNeg)) (rL_bytesOf (c 0 p.toNatClampNeg)) A) := by
      intro B e
      subst e
      unfold lpF
      rw [Int32.add_zero, nw0 A0 (by omega), nws A0 (by omega) (by omega) (by omega)]
      by_cases h1 : rL_endsBundle (c 0 p.toNatClampNeg) (c 1 p.toNatClampNeg) = 0
      · rw [if_pos h1, if_pos h1]
        by_cases h2 : (B - B / 16 * 16) + rL_bytesOf (c 0 p.toNatClampNeg) ≤ 16
        · rw [if_pos h2, if_pos h2]
        · rw [if_neg h2, if_neg h2]
      · rw [if_neg h1, if_neg h1]
    by_cases hm : rZ_isAimed j c p = 0
    · rw [if_pos hm] at hAe ⊢
      exact one _ hAe
    · rw [if_neg hm] at hAe ⊢
      exact one _ hAe
  constructor
  · exact aux _ eA (by omega) (by omega) (fun A P => rZ_layOut_l f j (sA (sA c (upd (c 10) p.toNatClampNeg A) 10) (upd (c 9) p.toNatClampNeg P) 9) (P + rL_bytesOf (c 0 p.toNatClampNeg)) (p + 1))
  · exact aux _ eA (by omega) (by omega) (fun A P => aZ_layOut_l f j (sA (sA c (upd (c 10) p.toNatClampNeg A) 10) (upd (c 9) p.toNatClampNeg P) 9) (P + rL_bytesOf (c 0 p.toNatClampNeg)) (p + 1))
theorem zl_end {f : Nat} {j : Nat → Int32} {c : Nat → Nat → Int32} {t p : Int32} (h : j 0 = p) (p0 : 0 ≤ p.toInt) (p1 : p.toInt ≤ 20) (q0 : 0 ≤ t.toInt) (q1 : t.toInt ≤ 2000) : rZ_layOut_l (f + 1 + 1) j c t p = (tpF (rZ_isAimed j c p) t + 16) - (tpF (rZ_isAimed j c p) t - tpF (rZ_isAimed j c p) t / 16 * 16) ∧ aZ_layOut_l (f + 1 + 1) j c t p = sA c (upd (c 10) p.toNatClampNeg (tpF (rZ_isAimed j c p) t)) 10 := by
  have hlt : ¬ j 0 < p := by rw [lt_i, h]; omega
  have hle : j 0 ≤ p := by rw [le_i, h]; omega
  have hl2 : j 0 < p + 1 := by rw [lt_i, h, addc c1 (by omega) (by omega)]; omega
  rw [rZ_layOut_l, aZ_layOut_l]
  simp only [if_pos hle, if_neg hlt]
  rw [rZ_layOut_l, aZ_layOut_l, rZ_layOut_l, aZ_layOut_l]
  simp only [if_pos hl2]
  unfold tpF
  rw [Int32.add_zero, nw0 q0 (by omega)]
  by_cases hm : rZ_isAimed j c p = 0
  · simp only [if_pos hm]; exact ⟨trivial, trivial⟩
  · simp only [if_neg hm]; exact ⟨trivial, trivial⟩
theorem pt_eq {i : Nat → Int32} {a : Nat → Nat → Int32} {p v : Int32} (h0 : 0 ≤ p.toInt) (h1 : p.toInt ≤ 20) : aP_placeTarget i a p v = sA a (upd (a 4) p.toNatClampNeg v) 4 := by
  unfold aP_placeTarget
  rw [if_neg]
  rw [within_i, Decidable.not_not, c0, c20]
  exact ⟨h0, h1⟩
theorem pl_eq {i : Nat → Int32} {a : Nat → Nat → Int32} {p v : Int32} (h0 : 0 ≤ p.toInt) (h1 : p.toInt < 20) : aP_placeLine i a p v = sA a (upd (a 5) p.toNatClampNeg v) 5 := by
  unfold aP_placeLine
  have hne : ¬ p = 20 := fun e => by rw [e] at h1; exact absurd h1 (by decide)
  rw [if_neg]
  rw [has20 h0 (by omega), if_neg hne]
  decide
theorem xl_step {f : Nat} {i : Nat → Int32} {a : Nat → Nat → Int32} {t p : Int32} (h : ¬ i 1 ≤ p) (p0 : 0 ≤ p.toInt) (p3 : (i 1).toInt ≤ 20) (g4 g5 : Nat → Int32) : ∃ A P : Int32, A = tpF (rP_isAddressTaken i (sA (sA a g4 4) g5 5) p) t ∧ P = lpF (rL_endsBundle (a 0 p.toNatClampNeg) (a 1 p.toNatClampNeg)) (rL_bytesOf (a 0 p.toNatClampNeg)) A ∧ rL_place_l (f + 1) i (sA (sA a g4 4) g5 5) t p = rL_place_l f i (sA (sA a (upd g4 p.toNatClampNeg A) 4) (upd g5 p.toNatClampNeg P) 5) (P + rL_bytesOf (a 0 p.toNatClampNeg)) (p + 1) ∧ iL_place_l (f + 1) i (sA (sA a g4 4) g5 5) t p = iL_place_l f i (sA (sA a (upd g4 p.toNatClampNeg A) 4) (upd g5 p.toNatClampNeg P) 5) (P + rL_bytesOf (a 0 p.toNatClampNeg)) (p + 1) ∧ aL_place_l (f + 1) i (sA (sA a g4 4) g5 5) t p = aL_place_l f i (sA (sA a (upd g4 p.toNatClampNeg A) 4) (upd g5 p.toNatClampNeg P) 5) (P + rL_bytesOf (a 0 p.toNatClampNeg)) (p + 1) := by
  have hp : p.toInt < (i 1).toInt := by rw [le_i] at h; omega
  have hk : ∀ X : Nat → Nat → Int32, X 0 = a 0 → X 1 = a 1 → rP_kindAt_w i X p = a 0 p.toNatClampNeg ∧ rP_firstAt_w i X p = a 1 p.toNatClampNeg := by
    intro X h0 h1
    obtain ⟨k0, k1, -, -⟩ := kindw (i := i) (a := X) p0 hp p3
    rw [k0, k1, h0, h1]
    exact ⟨rfl, rfl⟩
  refine ⟨_, _, rfl, rfl, ?_⟩
  rw [rL_place_l, iL_place_l, aL_place_l]
  simp only [if_neg h]
  have eA : rL_targetPlace i (sA (sA a g4 4) g5 5) p t = tpF (rP_isAddressTaken i (sA (sA a g4 4) g5 5) p) t := rfl
  simp only [eA]
  generalize tpF (rP_isAddressTaken i (sA (sA a g4 4) g5 5) p) t = A
  have e4 : (sA (sA a g4 4) g5 5) 4 = g4 := rfl
  simp only [pt_eq (i := i) p0 (show p.toInt ≤ 20 by omega), e4]
  have e5 : (sA (sA (sA a g4 4) g5 5) (upd g4 p.toNatClampNeg A) 4) 5 = g5 := rfl
  have eP : rL_linePlace i (sA (sA (sA a g4 4) g5 5) (upd g4 p.toNatClampNeg A) 4) p A = lpF (rL_endsBundle (a 0 p.toNatClampNeg) (a 1 p.toNatClampNeg)) (rL_bytesOf (a 0 p.toNatClampNeg)) A := by
    unfold rL_linePlace lpF
    obtain ⟨k0, k1⟩ := hk (sA (sA (sA a g4 4) g5 5) (upd g4 p.toNatClampNeg A) 4) rfl rfl
    rw [k0, k1]
  simp only [eP]
  generalize lpF (rL_endsBundle (a 0 p.toNatClampNeg) (a 1 p.toNatClampNeg)) (rL_bytesOf (a 0 p.toNatClampNeg)) A = P
  simp only [pl_eq (i := i) p0 (show p.toInt < 20 by omega), e5]
  rw [sA_n4 (by decide), (hk (sA (sA a (upd g4 p.toNatClampNeg A) 4) (upd g5 p.toNatClampNeg P) 5) rfl rfl).1]
  exact ⟨rfl, rfl, rfl⟩
theorem xl_end {f : Nat} {i : Nat → Int32} {a : Nat → Nat → Int32} {t p : Int32} (h : i 1 = p) (p0 : 0 ≤ p.toInt) (p1 : p.toInt ≤ 20) (g4 g5 : Nat → Int32) : rL_place_l (f + 1) i (sA (sA a g4 4) g5 5) t p = (tpF (rP_isAddressTaken i (sA (sA a g4 4) g5 5) p) t - (tpF (rP_isAddressTaken i (sA (sA a g4 4) g5 5) p) t - tpF (rP_isAddressTaken i (sA (sA a g4 4) g5 5) p) t / 16 * 16)) + 16 ∧ iL_place_l (f + 1) i (sA (sA a g4 4) g5 5) t p = sI i ((tpF (rP_isAddressTaken i (sA (sA a g4 4) g5 5) p) t - (tpF (rP_isAddressTaken i (sA (sA a g4 4) g5 5) p) t - tpF (rP_isAddressTaken i (sA (sA a g4 4) g5 5) p) t / 16 * 16)) + 16) 2 ∧ aL_place_l (f + 1) i (sA (sA a g4 4) g5 5) t p = sA (sA a (upd g4 p.toNatClampNeg (tpF (rP_isAddressTaken i (sA (sA a g4 4) g5 5) p) t)) 4) g5 5 := by
  have hle : i 1 ≤ p := by rw [le_i, h]; omega
  rw [rL_place_l, iL_place_l, aL_place_l]
  simp only [if_pos hle]
  have e4 : (sA (sA a g4 4) g5 5) 4 = g4 := rfl
  rw [h, pt_eq (i := i) p0 p1, e4, sA_n3 (by decide)]
  exact ⟨rfl, rfl, rfl⟩
theorem lay {i : Nat → Int32} {a : Nat → Nat → Int32} {j : Nat → Int32} {c : Nat → Nat → Int32} (p1 : i 1 = j 0) (p3 : (i 1).toInt ≤ 20) (q0 : a 0 = c 0) (q1 : a 1 = c 1) (q2 : a 2 = c 2) {N : Nat} (hN : (i 1).toInt = N) : ∀ (d f f' n : Nat) (p t : Int32) (g4 g5 g9 g10 : Nat → Int32), n + d = N → p.toInt = n → 0 ≤ t.toInt → t.toInt ≤ 48 + 46 * (n : Int) → t.toInt % 2 = 0 → d < f → d + 1 < f' →
    ∃ (al : Int32) (G4 G5 G9 G10 : Nat → Int32), rL_place_l f i (sA (sA a g4 4) g5 5) t p = al ∧ iL_place_l f i (sA (sA a g4 4) g5 5) t p = sI i al 2 ∧ aL_place_l f i (sA (sA a g4 4) g5 5) t p = sA (sA a G4 4) G5 5 ∧ rZ_layOut_l f' j (sA (sA c g10 10) g9 9) t p = al ∧ aZ_layOut_l f' j (sA (sA c g10 10) g9 9) t p = sA (sA c G10 10) G9 9 ∧ (∀ m : Nat, m < n → G4 m = g4 m ∧ G5 m = g5 m ∧ G9 m = g9 m ∧ G10 m = g10 m) ∧ (∀ m : Nat, n ≤ m → m ≤ N → G4 m = G10 m) ∧ (∀ m : Nat, n ≤ m → m < N → G5 m = G9 m) ∧ CN G10 G9 (c 0) al.toInt d n t.toInt := by
  intro d
  induction d with
  | zero =>
    intro f f' n p t g4 g5 g9 g10 hd hp t0 t1 t2 hf hf'
    obtain ⟨f, rfl⟩ : ∃ q, f = q + 1 := ⟨f - 1, by omega⟩
    obtain ⟨f', rfl⟩ : ∃ q, f' = q + 1 + 1 := ⟨f' - 2, by omega⟩
    have hpi : i 1 = p := eq_of_i hN (by omega)
    have hm := aim_eq (i := i) (a := sA (sA a g4 4) g5 5) (j := j) (c := sA (sA c g10 10) g9 9) p1 p3 q0 q2 p
    obtain ⟨x1, x2, x3⟩ := xl_end (f := f) (a := a) (t := t) hpi (by omega) (by omega) g4 g5
    obtain ⟨z1, z2⟩ := zl_end (f := f') (j := j) (c := sA (sA c g10 10) g9 9) (t := t) (p1.symm.trans hpi) (by omega) (by omega) t0 (by omega)
    rw [hm] at x1 x2 x3
    have hA := tp_f (m := rZ_isAimed j (sA (sA c g10 10) g9 9) p) t0 (by omega) t2
    generalize tpF (rZ_isAimed j (sA (sA c g10 10) g9 9) p) t = A at *
    have em := m16_i (x := A) (by omega)
    have e1 : (A - (A - A / 16 * 16)).toInt = A.toInt - A.toInt % 16 := by rw [sub_i (by omega) (by omega), em]
    have e2 : ((A - (A - A / 16 * 16)) + 16).toInt = A.toInt - A.toInt % 16 + 16 := by rw [addc c16 (by omega) (by omega), e1]
    have e3 : ((A + 16) - (A - A / 16 * 16)).toInt = A.toInt - A.toInt % 16 + 16 := by
      have e4 : (A + 16).toInt = A.toInt + 16 := addc c16 (by omega) (by omega)
      rw [sub_i (by omega) (by omega), em, e4]; omega
    have ht : p.toNatClampNeg = n := tn_v hp
    rw [eq_of_i e3 e2] at z1
    have e10 : (sA (sA c g10 10) g9 9) 10 = g10 := rfl
    rw [e10, sA_n3 (by decide), ht] at z2
    rw [ht] at x3
    refine ⟨_, upd g4 n A, g5, g9, upd g10 n A, x1, x2, x3, z1, z2, fun m hm => ⟨upd_ne _ _ (by omega), rfl, rfl, upd_ne _ _ (by omega)⟩, fun m m1 m2 => ?_, fun m m1 m2 => by omega, t2, ?_⟩
    · have : m = n := by omega
      subst this
      rw [upd_at, upd_at]
    · rw [upd_at, e2]
      omega
  | succ d ih =>
    intro f f' n p t g4 g5 g9 g10 hd hp t0 t1 t2 hf hf'
    obtain ⟨f, rfl⟩ : ∃ q, f = q + 1 := ⟨f - 1, by omega⟩
    obtain ⟨f', rfl⟩ : ∃ q, f' = q + 1 := ⟨f' - 1, by omega⟩
    have ht : p.toNatClampNeg = n := tn_v hp
    have hm := aim_eq (i := i) (a := sA (sA a g4 4) g5 5) (j := j) (c := sA (sA c g10 10) g9 9) p1 p3 q0 q2 p
    have hx : ¬ i 1 ≤ p := by rw [le_i]; omega
    have hz : ¬ j 0 ≤ p := by rw [← p1]; exact hx
    obtain ⟨A, P, eA, eP, x1, x2, x3⟩ := xl_step (f := f) (a := a) (t := t) hx (by omega) p3 g4 g5
    obtain ⟨z1, z2⟩ := zl_step (f := f') (j := j) (c := sA (sA c g10 10) g9 9) (t := t) hz t0 (by omega) t2
    have e10 : (sA (sA c g10 10) g9 9) 10 = g10 := rfl
    have e9 : (sA (sA c g10 10) g9 9) 9 = g9 := rfl
    have e0 : (sA (sA c g10 10) g9 9) 0 = c 0 := rfl
    have e1 : (sA (sA c g10 10) g9 9) 1 = c 1 := rfl
    rw [hm] at eA
    rw [q0, q1] at eP
    rw [q0] at x1 x2 x3
    rw [e0, e1, e9, e10, ← eA, ← eP, sA_n4 (by decide)] at z1 z2
    have hA := tp_f (m := rZ_isAimed j (sA (sA c g10 10) g9 9) p) t0 (by omega) t2
    rw [← eA] at hA
    have hP := lp_f (k := c 0 p.toNatClampNeg) (x := c 1 p.toNatClampNeg) (r := A) (by omega) (by omega) (by omega)
    rw [← eP] at hP
    have hz := bytes_i (c 0 p.toNatClampNeg)
    have hr := lsz_r (c 0 p.toNatClampNeg)
    rw [ht] at *
    have e4 : (P + rL_bytesOf (c 0 n)).toInt = P.toInt + lsz (c 0 n) := addc hz (by omega) (by omega)
    have e5 : (p + 1).toInt = ((n + 1 : Nat) : Int) := by rw [addc c1 (by omega) (by omega)]; omega
    obtain ⟨al, G4, G5, G9, G10, y1, y2, y3, y4, y5, y6, y7, y8, y9⟩ := ih f f' (n + 1) (p + 1) (P + rL_bytesOf (c 0 n)) (upd g4 n A) (upd g5 n P) (upd g9 n P) (upd g10 n A) (by omega) e5 (by omega) (by omega) (by omega) (by omega) (by omega)
    obtain ⟨w1, w2, w3, w4⟩ := y6 n (by omega)
    rw [upd_at] at w1 w2 w3 w4
    refine ⟨al, G4, G5, G9, G10, x1.trans y1, x2.trans y2, x3.trans y3, z1.trans y4, z2.trans y5, fun m hm => ?_, fun m m1 m2 => ?_, fun m m1 m2 => ?_, ?_⟩
    · obtain ⟨v1, v2, v3, v4⟩ := y6 m (by omega)
      rw [upd_ne _ _ (by omega)] at v1 v2 v3 v4
      exact ⟨v1, v2, v3, v4⟩
    · by_cases e : m = n
      · rw [e, w1, w4]
      · exact y7 m (by omega) m2
    · by_cases e : m = n
      · rw [e, w2, w3]
      · exact y8 m (by omega) m2
    · rw [e4] at y9
      refine ⟨t2, by rw [w4]; omega, by rw [w4]; omega, by rw [w3, w4]; omega, by rw [w3]; omega, fun hne => ?_, by rw [w3]; exact y9⟩
      rw [w4] at hne
      rw [w3, w4]
      exact hP.2.2.2 (hA.2.2.2 hne)

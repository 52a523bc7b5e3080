/-! the reference's build: what its loops need -/
def HZ (j : Nat → Int32) (c : Nat → Nat → Int32) : Prop := 0 ≤ (j 0).toInt ∧ (j 0).toInt ≤ 20 ∧ ∀ m : Nat, (m : Int) < (j 0).toInt → ¬ rP_allows (c 0 m) (c 1 m) (c 2 m) (c 3 m) = 0
def ZC (j : Nat → Int32) (c : Nat → Nat → Int32) (t : Int32) : Prop := HZ j c ∧ t.toInt ≤ 256 ∧ CN (c 10) (c 9) (c 0) t.toInt (j 0).toInt.toNat 0 48
def ZB (j : Nat → Int32) (c : Nat → Nat → Int32) (t n : Int32) : Prop := HZ j c ∧ t.toInt ≤ 256 ∧ 0 ≤ n.toInt ∧ n.toInt ≤ (j 0).toInt ∧ 0 ≤ (j 4).toInt ∧ CN (c 10) (c 9) (c 0) t.toInt ((j 0).toInt - n.toInt).toNat n.toInt.toNat (j 4).toInt
theorem layZ {j : Nat → Int32} {c : Nat → Nat → Int32} (h : HZ j c) : ∃ G9 G10 : Nat → Int32, aZ_layOut j c = sA (sA c G10 10) G9 9 ∧ CN G10 G9 (c 0) (rZ_layOut j c).toInt (j 0).toInt.toNat 0 48 := by
  obtain ⟨h0, h1, h2⟩ := h
  obtain ⟨al, G4, G5, G9, G10, y1, y2, y3, y4, y5, y6, y7, y8, y9⟩ := lay (i := fun _ => j 0) (a := c) (j := j) (c := c) rfl h1 rfl rfl rfl (N := (j 0).toInt.toNat) (by show (j 0).toInt = _; omega) (j 0).toInt.toNat ((j 0).toInt.toNat + 1) ((Int32.toInt (j 0) + 1 - Int32.toInt (0 : Int32)).toNat + 1) 0 0 48 (c 4) (c 5) (c 9) (c 10) (by omega) rfl (by decide) (by decide) (by decide) (by omega) (by rw [c0]; omega)
  rw [sA_self, sA_self] at y4 y5
  refine ⟨G9, G10, y5, ?_⟩
  unfold rZ_layOut
  rw [y4]
  exact y9
theorem ZC_lay {j : Nat → Int32} {c A1 : Nat → Nat → Int32} (h : HZ j c) (hA : A1 = aZ_layOut j c) (h256 : rZ_layOut j c ≤ 256) : ZC j A1 (rZ_layOut j c) := by
  obtain ⟨G9, G10, e, hc⟩ := layZ h
  rw [le_i, c256] at h256
  rw [hA, e]
  exact ⟨h, h256, hc⟩
theorem ZB_0 {j : Nat → Int32} {c : Nat → Nat → Int32} {t : Int32} (h : ZC j c t) : ZB (sI j 48 4) c t 0 := by
  obtain ⟨h1, h2, h3⟩ := h
  refine ⟨h1, h2, by decide, h1.1, (show 0 ≤ (48 : Int32).toInt by decide), ?_⟩
  show CN (c 10) (c 9) (c 0) t.toInt ((j 0).toInt - (0 : Int32).toInt).toNat (0 : Int32).toInt.toNat (48 : Int32).toInt
  rw [c0, c48, Int.sub_zero]
  exact h3
theorem ZB_split {j : Nat → Int32} {c : Nat → Nat → Int32} {t n : Int32} (h : ZB j c t n) (hn : ¬ j 0 ≤ n) : ∃ (V m d : Nat), (j 4).toInt = V ∧ n.toInt = m ∧ (j 0).toInt = ((m + d + 1 : Nat) : Int) ∧ n.toNatClampNeg = m ∧ V % 2 = 0 ∧ (V : Int) ≤ (c 9 m).toInt ∧ (c 9 m).toInt % 2 = 0 ∧ (c 9 m).toInt + lsz (c 0 m) < t.toInt ∧ t.toInt ≤ 256 ∧ ¬ rP_allows (c 0 m) (c 1 m) (c 2 m) (c 3 m) = 0 ∧ CN (c 10) (c 9) (c 0) t.toInt d (m + 1) ((c 9 m).toInt + lsz (c 0 m)) := by
  obtain ⟨⟨h0, h1, h2⟩, h3, h4, h5, h6, h7⟩ := h
  rw [le_i] at hn
  refine ⟨(j 4).toInt.toNat, n.toInt.toNat, ((j 0).toInt - n.toInt).toNat - 1, by omega, by omega, by omega, rfl, ?_⟩
  have hd : ((j 0).toInt - n.toInt).toNat = ((j 0).toInt - n.toInt).toNat - 1 + 1 := by omega
  rw [hd] at h7
  obtain ⟨x1, x2, x3, x4, x5, x6, x7⟩ := h7
  have := CN_lt _ _ _ x7
  exact ⟨by omega, by omega, x5, by omega, h3, h2 _ (by omega), x7⟩
theorem pad_he {x p : Int32} {V E : Nat} (hv : x.toInt = V) (hp : p.toInt = E) (hE : E ≤ 256) (hVE : V ≤ E) : (p - x) - (p - x) / 4 * 4 = 0 → padok x p := by
  intro h4
  have e1 : (p - x).toInt = ((E - V : Nat) : Int) := by rw [sub_i (by omega) (by omega)]; omega
  have er := rem4_i (p - x)
  rw [if_pos (by omega), h4, c0] at er
  exact ⟨by omega, by omega, (E - V) / 4, by omega⟩
theorem pad_ho {x p : Int32} {V E : Nat} (hv : x.toInt = V) (hp : p.toInt = E) (hE : E ≤ 256) (hVE : V ≤ E) (h2 : (E - V) % 2 = 0) : ¬ (p - x) - (p - x) / 4 * 4 = 0 → (0 ≤ x.toInt ∧ x.toInt + (2 : Int32).toInt ≤ 256) ∧ padok (x + 1 + 1) p := by
  intro h4
  have e1 : (p - x).toInt = ((E - V : Nat) : Int) := by rw [sub_i (by omega) (by omega)]; omega
  have er := rem4_i (p - x)
  rw [if_pos (by omega)] at er
  have h4' : ¬ (E - V) % 4 = 0 := fun e => h4 (Int32.toInt_inj.mp (by rw [er, e1, c0]; omega))
  have e2 : (x + 1).toInt = x.toInt + 1 := addc c1 (by omega) (by omega)
  have e3 : (x + 1 + 1).toInt = x.toInt + 1 + 1 := by rw [addc c1 (by omega) (by omega), e2]
  refine ⟨⟨by omega, by rw [c2]; omega⟩, by omega, by omega, (E - V) / 4, by omega⟩
theorem ZB_pp {j : Nat → Int32} {c : Nat → Nat → Int32} {t n : Int32} (h : ZB j c t n) (hn : ¬ j 0 ≤ n) : ((c 9 n.toNatClampNeg - j 4) - (c 9 n.toNatClampNeg - j 4) / 4 * 4 = 0 → padok (j 4) (c 9 n.toNatClampNeg)) ∧ (¬ (c 9 n.toNatClampNeg - j 4) - (c 9 n.toNatClampNeg - j 4) / 4 * 4 = 0 → (0 ≤ (j 4).toInt ∧ (j 4).toInt + (2 : Int32).toInt ≤ 256) ∧ padok (j 4 + 1 + 1) (c 9 n.toNatClampNeg)) := by
  obtain ⟨V, m, d, h1, h2, h3, h4, h5, h6, h7, h8, h9, h10, h11⟩ := ZB_split h hn
  rw [h4]
  exact ⟨pad_he h1 (E := (c 9 m).toInt.toNat) (by omega) (by omega) (by omega), pad_ho h1 (E := (c 9 m).toInt.toNat) (by omega) (by omega) (by omega) (by omega)⟩
theorem ZB_in {j : Nat → Int32} {c : Nat → Nat → Int32} {t n : Int32} (h : ZB j c t n) (hn : ¬ j 0 ≤ n) : vp_in n 20 := by
  rw [vp_in_iff]
  have := h.1.2.1
  have := h.2.2.1
  rw [le_i] at hn
  omega
theorem ZB_in21 {j : Nat → Int32} {c : Nat → Nat → Int32} {t n : Int32} (h : ZB j c t n) (hn : ¬ j 0 ≤ n) : vp_in n 21 := by
  rw [vp_in_iff]
  have := h.1.2.1
  have := h.2.2.1
  rw [le_i] at hn
  omega
theorem ZB_pad {j I1 : Nat → Int32} {c A1 : Nat → Nat → Int32} {t n : Int32} (h : ZB j c t n) (hn : ¬ j 0 ≤ n) (hI : I1 = iZ_pad j c (c 9 n.toNatClampNeg)) (hA : A1 = aZ_pad j c (c 9 n.toNatClampNeg)) : I1 = sI j (c 9 n.toNatClampNeg) 4 ∧ ∃ g : Nat → Int32, A1 = sA c g 11 := by
  obtain ⟨V, m, d, h1, h2, h3, h4, h5, h6, h7, h8, h9, h10, h11⟩ := ZB_split h hn
  rw [h4] at hI hA ⊢
  obtain ⟨w1, w2⟩ := zpad (j := j) (c := c) (p := c 9 m) h1 (E := (c 9 m).toInt.toNat) (by omega) (by omega) (by omega) (by omega)
  rw [hI, hA, w1, w2]
  exact ⟨rfl, _, rfl⟩
theorem ZB_wok {j I1 : Nat → Int32} {c A1 : Nat → Nat → Int32} {t n : Int32} (h : ZB j c t n) (hn : ¬ j 0 ≤ n) (hI : I1 = iZ_pad j c (c 9 n.toNatClampNeg)) (hA : A1 = aZ_pad j c (c 9 n.toNatClampNeg)) : WOK (A1 0 n.toNatClampNeg) (I1 4) ∧ TOK (A1 0 n.toNatClampNeg) (A1 2 n.toNatClampNeg) (A1 3 n.toNatClampNeg) := by
  obtain ⟨e1, g, e2⟩ := ZB_pad h hn hI hA
  obtain ⟨V, m, d, h1, h2, h3, h4, h5, h6, h7, h8, h9, h10, h11⟩ := ZB_split h hn
  subst e1 e2
  show WOK (c 0 n.toNatClampNeg) (c 9 n.toNatClampNeg) ∧ TOK (c 0 n.toNatClampNeg) (c 2 n.toNatClampNeg) (c 3 n.toNatClampNeg)
  rw [h4]
  obtain ⟨-, lx, ly, lz, lt, lc, ls⟩ := al_of h10
  have hr := lsz_r (c 0 m)
  refine ⟨⟨⟨by omega, by omega⟩, fun e => ?_, fun e => ?_, fun e => ?_, fun e e' => ?_⟩, fun e e' => ?_, fun e => ?_, fun e => ?_⟩
  · rw [e, show lsz 6 = 16 by decide] at h8
    exact ⟨by omega, by omega⟩
  · rw [e, show lsz 7 = 16 by decide] at h8
    exact ⟨by omega, by omega⟩
  · rw [e, show lsz 12 = 8 by decide] at h8
    exact ⟨by omega, by omega⟩
  · have : 4 ≤ lsz (c 0 m) := by
      unfold lsz
      rw [if_neg (show ¬ (c 0 m = 13 ∨ c 0 m = 14) from fun z => z.elim e e')]
      split
      · omega
      · split <;> omega
    exact ⟨by omega, by omega⟩
  · have e3 : c 0 m = 8 ∨ c 0 m = 9 ∨ c 0 m = 10 := by
      simp only [← Int32.toInt_inj]
      rw [lt_i, show (8 : Int32).toInt = 8 from rfl] at e
      rw [lt_i, c10] at e'
      rw [show (8 : Int32).toInt = 8 from rfl, show (9 : Int32).toInt = 9 from rfl, c10]
      omega
    have := lc e3
    rw [vp_in_iff]
    omega
  · have := lt (Or.inr e)
    rw [vp_in_iff]
    omega
  · have := lt (Or.inl e)
    rw [vp_in_iff]
    omega
theorem ZB_wr {j I1 I2 : Nat → Int32} {c A1 A2 : Nat → Nat → Int32} {t n : Int32} (h : ZB j c t n) (hn : ¬ j 0 ≤ n) (hI : I1 = iZ_pad j c (c 9 n.toNatClampNeg)) (hA : A1 = aZ_pad j c (c 9 n.toNatClampNeg)) (hI2 : I2 = iZ_write I1 A1 n) (hA2 : A2 = aZ_write I1 A1 n) : ∃ (v : Int32) (g : Nat → Int32), v.toInt = (c 9 n.toNatClampNeg).toInt + lsz (c 0 n.toNatClampNeg) ∧ I2 = sI j v 4 ∧ A2 = sA c g 11 := by
  obtain ⟨e1, g, e2⟩ := ZB_pad h hn hI hA
  obtain ⟨V, m, d, h1, h2, h3, h4, h5, h6, h7, h8, h9, h10, h11⟩ := ZB_split h hn
  subst e1 e2
  rw [h4] at hI hA hI2 hA2
  have al : ¬ rP_allows ((sA c g 11) 0 n.toNatClampNeg) ((sA c g 11) 1 n.toNatClampNeg) ((sA c g 11) 2 n.toNatClampNeg) ((sA c g 11) 3 n.toNatClampNeg) = 0 := by rw [h4]; exact h10
  obtain ⟨v, v1, v2, v3⟩ := zline (j := sI j (c 9 m) 4) (c := sA c g 11) (p := n) (V := (c 9 m).toInt.toNat) (by show (c 9 m).toInt = _; omega) al (by rw [h4]; show (c 9 m).toInt.toNat + lsz (c 0 m) ≤ 256; omega)
  rw [LS_LN al, h4] at v1
  rw [h4]
  have v1 : v.toInt = (((c 9 m).toInt.toNat + lsz (c 0 m) : Nat) : Int) := v1
  rw [v2, sI_sI] at hI2
  rw [v3, sA_sA] at hA2
  exact ⟨v, _, by omega, hI2, hA2⟩
theorem ZB_ms {j I1 I2 : Nat → Int32} {c A1 A2 : Nat → Nat → Int32} {t n : Int32} {f : Nat} (h : ZB j c t n) (hn : ¬ j 0 ≤ n) (hI : I1 = iZ_pad j c (c 9 n.toNatClampNeg)) (hA : A1 = aZ_pad j c (c 9 n.toNatClampNeg)) (hI2 : I2 = iZ_write I1 A1 n) (hA2 : A2 = aZ_write I1 A1 n) (hm : ((j 0).toInt - n.toInt).toNat < f + 1) : ((I2 0).toInt - (n + 1).toInt).toNat < f := by
  obtain ⟨v, g, v1, v2, v3⟩ := ZB_wr h hn hI hA hI2 hA2
  subst v2
  exact ms_up hn hm
theorem ZB_up {j I1 I2 : Nat → Int32} {c A1 A2 : Nat → Nat → Int32} {t n : Int32} (h : ZB j c t n) (hn : ¬ j 0 ≤ n) (hI : I1 = iZ_pad j c (c 9 n.toNatClampNeg)) (hA : A1 = aZ_pad j c (c 9 n.toNatClampNeg)) (hI2 : I2 = iZ_write I1 A1 n) (hA2 : A2 = aZ_write I1 A1 n) (f4 f5 f6 f7 : Nat → Int32) : ZB I2 (sA (sA (sA (sA A2 f4 4) f5 5) f6 6) f7 7) t (n + 1) := by
  obtain ⟨v, g, v1, v2, v3⟩ := ZB_wr h hn hI hA hI2 hA2
  obtain ⟨V, m, d, h1, h2, h3, h4, h5, h6, h7, h8, h9, h10, h11⟩ := ZB_split h hn
  subst v2 v3
  rw [h4] at v1
  have h0 := h.1
  have h01 := h0.2.1
  have e1 : (n + 1).toInt = ((m + 1 : Nat) : Int) := by rw [addc c1 (by omega) (by omega)]; omega
  refine ⟨h0, h9, by omega, (show (n + 1).toInt ≤ (j 0).toInt by omega), (show 0 ≤ v.toInt by omega), ?_⟩
  show CN (c 10) (c 9) (c 0) t.toInt ((j 0).toInt - (n + 1).toInt).toNat (n + 1).toInt.toNat v.toInt
  rw [show ((j 0).toInt - (n + 1).toInt).toNat = d by omega, show (n + 1).toInt.toNat = m + 1 by omega, v1]
  exact h11
theorem ZB_ee {j : Nat → Int32} {c : Nat → Nat → Int32} {t n : Int32} (h : ZB j c t n) : ((t - j 4) - (t - j 4) / 4 * 4 = 0 → padok (j 4) t) ∧ (¬ (t - j 4) - (t - j 4) / 4 * 4 = 0 → (0 ≤ (j 4).toInt ∧ (j 4).toInt + (2 : Int32).toInt ≤ 256) ∧ padok (j 4 + 1 + 1) t) := by
  obtain ⟨h1, h2, h3, h4, h5, h6⟩ := h
  have := CN_lt _ _ _ h6
  exact ⟨pad_he (V := (j 4).toInt.toNat) (E := t.toInt.toNat) (by omega) (by omega) (by omega) (by omega), pad_ho (V := (j 4).toInt.toNat) (E := t.toInt.toNat) (by omega) (by omega) (by omega) (by omega) (by omega)⟩
theorem nn_ule {n M : Int32} (h0 : 0 ≤ n.toInt) (h : ¬ M < n) (hM : M.toInt ≤ 20) : 0 ≤ (n + 1).toInt := by
  have := nlt h
  rw [addc c1 (by omega) (by omega)]
  omega
theorem in_ule {n M : Int32} (h0 : 0 ≤ n.toInt) (h : ¬ M < n) (hM : M.toInt ≤ 20) : vp_in n 21 := by
  have := nlt h
  rw [vp_in_iff]
  omega

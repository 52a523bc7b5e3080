/-! check: the instructions' beginnings, class and reference alike -/
/-- bytes of an instruction -/
noncomputable def szn (w : Int32) : Nat := if rZ_isLong w = 0 then 2 else 4
theorem szn_i (w : Int32) : (rZ_bytesOf w).toInt = szn w := by
  unfold rZ_bytesOf szn
  by_cases h : rZ_isLong w = 0
  · rw [if_pos h, if_pos h]; rfl
  · rw [if_neg h, if_neg h]; rfl
theorem szn_r (w : Int32) : szn w = 2 ∨ szn w = 4 := by
  unfold szn
  by_cases h : rZ_isLong w = 0
  · rw [if_pos h]; exact Or.inl rfl
  · rw [if_neg h]; exact Or.inr rfl
/-- the beginnings that g marks, up to n: each ends where the next begins -/
def CH (B g : Nat → Int32) (n : Nat) : Prop := ∀ m : Nat, m < 256 → ¬ g m = 0 → 48 ≤ m ∧ m < n ∧ m % 2 = 0 ∧ ¬ rF_kindOf (B m) = -1 ∧ m % 16 + szn (B m) ≤ 16 ∧ (∀ q : Nat, m < q → q < m + szn (B m) → g q = 0) ∧ (m + szn (B m) = n ∨ (m + szn (B m) < n ∧ ¬ g (m + szn (B m)) = 0))
def XA (B g g' : Nat → Int32) (n : Nat) : Prop := ∀ m : Nat, 48 ≤ m → m < n → m % 2 = 0 → g m = if g' m = 0 then 0 else B m
theorem ch_up {B g : Nat → Int32} {n : Nat} (h : CH B g n) (h0 : 48 ≤ n) (h1 : n < 256) (h2 : n % 2 = 0) (hk : ¬ rF_kindOf (B n) = -1) (hm : n % 16 + szn (B n) ≤ 16) : CH B (upd g n 1) (n + szn (B n)) := by
  have hr := szn_r (B n)
  intro m m1 m2
  by_cases e : m = n
  · subst e
    refine ⟨h0, by omega, h2, hk, hm, fun q q1 q2 => ?_, Or.inl rfl⟩
    rw [upd_ne _ _ (by omega)]
    refine Classical.byContradiction fun hq => ?_
    have := (h q (by omega) hq).2.1
    omega
  · rw [upd_ne _ _ e] at m2
    obtain ⟨x1, x2, x3, x4, x5, x6, x7⟩ := h m m1 m2
    refine ⟨x1, by omega, x3, x4, x5, fun q q1 q2 => ?_, Or.inr ?_⟩
    · rw [upd_ne _ _ (by omega)]
      exact x6 q q1 q2
    · rcases x7 with x7 | ⟨x7, x8⟩
      · refine ⟨by omega, ?_⟩
        rw [x7, upd_at]
        decide
      · refine ⟨by omega, ?_⟩
        rw [upd_ne _ _ (by omega)]
        exact x8
theorem xa_2 {B g g' : Nat → Int32} {n : Nat} (h : XA B g g' n) (h2 : n % 2 = 0) : XA B (upd g n (B n)) (upd g' n 1) (n + 2) := by
  intro m m1 m2 m3
  by_cases e : m = n
  · subst e
    rw [upd_at, upd_at, if_neg (by decide)]
  · rw [upd_ne _ _ e, upd_ne _ _ e]
    exact h m m1 (by omega) m3
theorem xa_4 {B g g' : Nat → Int32} {n : Nat} (h : XA B g g' n) (hc : CH B g' n) (h1 : n + 2 < 256) (h2 : n % 2 = 0) : XA B (upd (upd g n (B n)) (n + 2) 0) (upd g' n 1) (n + 4) := by
  intro m m1 m2 m3
  by_cases e : m = n + 2
  · subst e
    rw [upd_at, upd_ne _ _ (by omega)]
    rw [if_pos]
    refine Classical.byContradiction fun hq => ?_
    have := (hc (n + 2) (by omega) hq).2.1
    omega
  · rw [upd_ne _ _ e]
    exact xa_2 h h2 m m1 (by omega) m3
theorem kneg {w : Int32} : rF_kindOf w < 0 ↔ rF_kindOf w = -1 := by
  constructor
  · intro h
    rcases kind_rng w with e | ⟨e, -⟩
    · exact e
    · rw [lt_i] at h
      rw [le_i] at e
      omega
  · intro h
    rw [h]
    decide
theorem kind0 : rF_kindOf 0 = -1 := by decide +kernel
/-- how the first loop over the beginnings may end -/
def RB (a : Nat → Nat → Int32) (j : Nat → Int32) (c : Nat → Nat → Int32) (B : Nat → Int32) (S : Nat) (r r' : Int32) (A C : Nat → Nat → Int32) : Prop :=
  (¬ r = -1 ∧ r' = r ∧ (∃ u : Nat → Int32, A = sA a u 13) ∧ ∃ u : Nat → Int32, C = sA c u 12) ∨
  (∃ u u' : Nat → Int32, r = -1 ∧ A = sA a u 13 ∧ C = sA c u' 12 ∧ r' = rZ_check_3 ((Int32.toInt (j 3) - Int32.toInt (48 : Int32)).toNat + 1) j (sA c u' 12) 48 ∧ CH B u' S ∧ XA B u u' S)
theorem brk {i : Nat → Int32} {a : Nat → Nat → Int32} {j : Nat → Int32} {c : Nat → Nat → Int32} (hC : IvC i a j c) {B : Nat → Int32} (hB : ∀ p : Int32, 0 ≤ p.toInt → p.toInt < 256 → rZ_bitsAt j c p = B p.toNatClampNeg) {S : Nat} (hS : (i 5).toInt = S) (s0 : 48 < S) (s1 : S ≤ 256) (s2 : S % 16 = 0) : ∀ (d : Nat) (f f' n : Nat) (p : Int32) (g g' : Nat → Int32), S - n ≤ d → p.toInt = n → 48 ≤ n → n ≤ S → n % 2 = 0 → CH B g' n → XA B g g' n → 256 - n < f → S - n < f' →
    RB a j c B S (rK_firstBroken_l f i (sA a g 13) p p) (rZ_check_2 f' j (sA c g' 12) p) (aK_firstBroken_l f i (sA a g 13) p p) (aZ_check_2 f' j (sA c g' 12) p) := by
  have k1 := hC.1
  intro d
  induction d with
  | zero =>
    intro f f' n p g g' hd hp h0 h1 h2 hc hx hf hf'
    have en : n = S := by omega
    subst en
    obtain ⟨f, rfl⟩ : ∃ q, f = q + 1 := ⟨f - 1, by omega⟩
    obtain ⟨f', rfl⟩ : ∃ q, f' = q + 1 := ⟨f' - 1, by omega⟩
    unfold rK_firstBroken_l aK_firstBroken_l rZ_check_2 aZ_check_2
    have g1 : i 5 ≤ p := by rw [le_i]; omega
    have g1' : j 3 ≤ p := by rw [← k1]; exact g1
    simp only [if_pos g1, if_pos g1']
    exact Or.inr ⟨g, g', rfl, rfl, rfl, rfl, hc, hx⟩
  | succ d ih =>
    intro f f' n p g g' hd hp h0 h1 h2 hc hx hf hf'
    by_cases en : n = S
    · subst en
      obtain ⟨f, rfl⟩ : ∃ q, f = q + 1 := ⟨f - 1, by omega⟩
      obtain ⟨f', rfl⟩ : ∃ q, f' = q + 1 := ⟨f' - 1, by omega⟩
      unfold rK_firstBroken_l aK_firstBroken_l rZ_check_2 aZ_check_2
      have g1 : i 5 ≤ p := by rw [le_i]; omega
      have g1' : j 3 ≤ p := by rw [← k1]; exact g1
      simp only [if_pos g1, if_pos g1']
      exact Or.inr ⟨g, g', rfl, rfl, rfl, rfl, hc, hx⟩
    · obtain ⟨f, rfl⟩ : ∃ q, f = q + 1 := ⟨f - 1, by omega⟩
      obtain ⟨f', rfl⟩ : ∃ q, f' = q + 1 := ⟨f' - 1, by omega⟩
      have ht : p.toNatClampNeg = n := by have := tn_of (x := p) (by omega); omega
      have hb : rZ_bitsAt j c p = B n := by rw [hB p (by omega) (by omega), ht]
      have hne : ¬ p = -1 := fun e => by subst e; revert hp; rw [show (-1 : Int32).toInt = -1 from rfl]; omega
      have g1 : ¬ i 5 ≤ p := by rw [le_i]; omega
      have g1' : ¬ j 3 ≤ p := by rw [← k1]; exact g1
      have g2 : ¬ (256 : Int32) ≤ p := by rw [le_i, c256]; omega
      have hft := fetch_of (show IvC i (sA a g 13) j c from hC) (p := p) (by omega) (by omega)
      rw [hb, szn_i] at hft
      have hr := szn_r (B n)
      have zb : ∀ u : Nat → Int32, rZ_bitsAt j (sA c u 12) p = B n := fun _ => hb
      have er : (p - p / 16 * 16).toInt = ((n % 16 : Nat) : Int) := by rw [rem16_i, if_pos (by omega), hp]; omega
      have e3 : ((p - p / 16 * 16) + rZ_bytesOf (B n)).toInt = ((n % 16 + szn (B n) : Nat) : Int) := by
        rw [addc (szn_i (B n)) (by omega) (by omega), er]; omega
      have tz : vp_nar .boolean (1 : Int32) = 1 := rfl
      unfold rK_firstBroken_l aK_firstBroken_l rZ_check_2 aZ_check_2
      simp only [if_neg g1, if_neg g2, if_neg g1', if_true, sA_sA, sA_eq, zb, ← kind_eq, kneg, size_eq, ht, tz]
      by_cases fit : n + szn (B n) ≤ S
      · rw [if_pos (by omega)] at hft
        simp only [hft]
        by_cases hk : rF_kindOf (B n) = -1
        · simp only [if_pos hk]
          exact Or.inl ⟨hne, rfl, ⟨_, rfl⟩, ⟨_, rfl⟩⟩
        · simp only [if_neg hk]
          by_cases hm : n % 16 + szn (B n) ≤ 16
          · have g3 : (p - p / 16 * 16) + rZ_bytesOf (B n) ≤ 16 := by rw [le_i, e3, c16]; omega
            simp only [if_pos g3]
            have hc' := ch_up hc h0 (by omega) h2 hk hm
            rcases hr with hr | hr
            · have ep : p + rZ_bytesOf (B n) = p + 2 := by
                apply Int32.toInt_inj.mp
                rw [addc (szn_i (B n)) (by omega) (by omega), addc c2 (by omega) (by omega), hr]
                rfl
              rw [ep]
              rw [hr] at hc'
              exact ih f f' (n + 2) (p + 2) _ _ (by omega) (by rw [addc c2 (by omega) (by omega)]; omega) (by omega) (by omega) (by omega) hc' (xa_2 hx h2) (by omega) (by omega)
            · have ep : p + rZ_bytesOf (B n) = p + 4 := by
                apply Int32.toInt_inj.mp
                rw [addc (szn_i (B n)) (by omega) (by omega), addc c4 (by omega) (by omega), hr]
                rfl
              rw [ep]
              rw [hr] at hc'
              obtain ⟨f, rfl⟩ : ∃ q, f = q + 1 := ⟨f - 1, by omega⟩
              have a2 : (p + 2).toInt = p.toInt + 2 := addc c2 (by omega) (by omega)
              have a4 : (p + 4).toInt = p.toInt + 4 := addc c4 (by omega) (by omega)
              have t2 : (p + 2).toNatClampNeg = n + 2 := by have := tn_of (x := p + 2) (by omega); omega
              have a5 : p + 2 + 2 = p + 4 := by
                apply Int32.toInt_inj.mp
                rw [addc c2 (by omega) (by omega), a2, a4]; omega
              have q1 : ¬ i 5 ≤ p + 2 := by rw [le_i]; omega
              have q2 : ¬ (256 : Int32) ≤ p + 2 := by rw [le_i, c256]; omega
              have q3 : ¬ p + 2 = p + 4 := fun e => by
                have := congrArg Int32.toInt e
                omega
              unfold rK_firstBroken_l aK_firstBroken_l
              simp only [if_neg q1, if_neg q2, if_neg q3, sA_sA, sA_eq, t2, a5]
              exact ih f f' (n + 4) (p + 4) _ _ (by omega) (by omega) (by omega) (by omega) (by omega) hc' (xa_4 hx hc (by omega) h2) (by omega) (by omega)
          · have g3 : ¬ (p - p / 16 * 16) + rZ_bytesOf (B n) ≤ 16 := by rw [le_i, e3, c16]; omega
            simp only [if_neg g3]
            exact Or.inl ⟨hne, rfl, ⟨_, rfl⟩, ⟨_, rfl⟩⟩
      · rw [if_neg (by omega)] at hft
        have g3 : ¬ (p - p / 16 * 16) + rZ_bytesOf (B n) ≤ 16 := by rw [le_i, e3, c16]; omega
        simp only [hft, kind0, if_true, if_neg g3, ite_self]
        exact Or.inl ⟨hne, rfl, ⟨_, rfl⟩, ⟨_, rfl⟩⟩

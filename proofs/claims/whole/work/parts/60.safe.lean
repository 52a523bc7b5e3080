/-! check: what stands at a beginning, class and reference alike -/
/-- how the reference compares an instruction before -/
def tst (x b w : Int32) : Int32 := if x = 0 then (if w &&& -1 = b &&& -1 then 1 else 0) else (if w &&& -1015809 = b &&& -1015809 then 1 else 0)
theorem tst_zo (x b w : Int32) : tst x b w = 0 ∨ tst x b w = 1 := by
  unfold tst
  repeat' (first | (with_reducible refine ite_P (fun x : Int32 => x = 0 ∨ x = 1) ?_ ?_) | decide)
theorem bgn {i : Nat → Int32} {a : Nat → Nat → Int32} {B u u' : Nat → Int32} {S : Nat} (hS : (i 5).toInt = S) (s1 : S ≤ 256) (hc : CH B u' S) (hx : XA B u u' S) (t : Int32) : rK_begunAt i (sA a u 13) t = if 48 ≤ t.toInt ∧ t.toInt < S ∧ ¬ u' t.toNatClampNeg = 0 then B t.toNatClampNeg else 0 := by
  unfold rK_begunAt
  rw [sA_eq]
  by_cases h1 : t < 48
  · rw [if_pos h1, if_neg]
    rw [lt_i, c48] at h1
    omega
  · rw [if_neg h1]
    rw [lt_i, c48] at h1
    by_cases h2 : i 5 ≤ t
    · rw [if_pos h2, if_neg]
      rw [le_i] at h2
      omega
    · rw [if_neg h2]
      rw [le_i] at h2
      have ht := tn_of (x := t) (by omega)
      rw [if_neg (show ¬ (256 : Int32) ≤ t by rw [le_i, c256]; omega)]
      have er := rem2_i t
      rw [if_pos (by omega)] at er
      by_cases h3 : t - t / 2 * 2 = 0
      · rw [if_pos h3]
        rw [h3, c0] at er
        rw [hx _ (by omega) (by omega) (by omega)]
        by_cases h4 : u' t.toNatClampNeg = 0
        · rw [if_pos h4, if_neg (fun q => q.2.2 h4)]
        · rw [if_neg h4, if_pos ⟨by omega, by omega, h4⟩]
      · rw [if_neg h3, if_neg]
        intro q
        have := (hc _ (by omega) q.2.2).2.2.1
        apply h3
        apply Int32.toInt_inj.mp
        rw [er, c0]
        omega
theorem nz_B {B u' : Nat → Int32} {S : Nat} (hc : CH B u' S) {m : Nat} (h1 : m < 256) (h : ¬ u' m = 0) : ¬ B m = 0 := fun e => (hc m h1 h).2.2.2.1 (by rw [e]; exact kind0)
theorem lands_eq {i : Nat → Int32} {a : Nat → Nat → Int32} {j : Nat → Int32} {c : Nat → Nat → Int32} {B u u' : Nat → Int32} {S : Nat} (k1 : i 5 = j 3) (hB : ∀ p : Int32, 0 ≤ p.toInt → p.toInt < 256 → rZ_bitsAt j c p = B p.toNatClampNeg) (hS : (i 5).toInt = S) (s0 : 48 < S) (s1 : S ≤ 256) (hc : CH B u' S) (hx : XA B u u' S) (t : Int32) : rK_mayLeadTo i (sA a u 13) t = rZ_lands j (sA c u' 12) t := by
  unfold rK_mayLeadTo rZ_lands
  rw [bgn hS s1 hc hx, ot_eq, sA_eq, md_base, ← k1]
  by_cases h0 : t = 0
  · rw [if_pos h0, if_pos h0]
  · rw [if_neg h0, if_neg h0]
    by_cases h1 : t = 16
    · rw [if_pos h1, if_pos h1]
    · rw [if_neg h1, if_neg h1]
      by_cases h2 : t = 32
      · rw [if_pos h2, if_pos h2]
      · rw [if_neg h2, if_neg h2]
        have es : (i 5 - 1).toInt = (i 5).toInt - 1 := by rw [sub_i (by rw [c1]; omega) (by rw [c1]; omega), c1]
        by_cases h3 : 48 ≤ t ∧ t ≤ i 5 - 1
        · rw [if_pos h3, if_pos rfl]
          rw [le_i, le_i, es, c48] at h3
          have ht := tn_of (x := t) (by omega)
          have hb : rZ_bitsAt j (sA c u' 12) t = B t.toNatClampNeg := hB t (by omega) (by omega)
          by_cases h4 : u' t.toNatClampNeg = 0
          · rw [if_neg (show ¬ (48 ≤ t.toInt ∧ t.toInt < S ∧ ¬ u' t.toNatClampNeg = 0) from fun q => q.2.2 h4), if_pos rfl, if_pos h4]
          · rw [if_pos (show 48 ≤ t.toInt ∧ t.toInt < S ∧ ¬ u' t.toNatClampNeg = 0 from ⟨by omega, by omega, h4⟩), if_neg (nz_B hc (by omega) h4), if_neg h4, hb, ← kind_eq]
        · rw [if_neg h3, if_neg (show ¬ (1 : Int32) = 0 by decide)]
          rw [le_i, le_i, es, c48] at h3
          rw [if_neg (show ¬ (48 ≤ t.toInt ∧ t.toInt < S ∧ ¬ u' t.toNatClampNeg = 0) by omega), if_pos rfl]
theorem scan {j : Nat → Int32} {c : Nat → Nat → Int32} {B u' : Nat → Int32} (hB : ∀ p : Int32, 0 ≤ p.toInt → p.toInt < 256 → rZ_bitsAt j c p = B p.toNatClampNeg) {p : Int32} {P : Nat} (hp : p.toInt = P) (P0 : 48 ≤ P) (P1 : P < 256) (b x : Int32) : ∀ (f : Nat) (q : Int32) (Q : Nat), q.toInt + 1 = Q → P / 16 * 16 ≤ Q → Q ≤ P → (∀ m : Nat, Q ≤ m → m < P → u' m = 0) → Q < f →
    (rZ_isBefore_l f j (sA c u' 12) p b x q = 0 ∧ ∀ m : Nat, P / 16 * 16 ≤ m → m < P → u' m = 0) ∨ (∃ m : Nat, P / 16 * 16 ≤ m ∧ m < P ∧ ¬ u' m = 0 ∧ (∀ k : Nat, m < k → k < P → u' k = 0) ∧ rZ_isBefore_l f j (sA c u' 12) p b x q = tst x b (B m)) := by
  have eb : (p / 16 * 16).toInt = ((P / 16 * 16 : Nat) : Int) := by rw [mul16_i (by omega) (by omega), hp]; omega
  intro f
  induction f with
  | zero => intro q Q _ _ _ _ h; exact absurd h (Nat.not_lt_zero _)
  | succ f ih =>
    intro q Q hq h0 h1 hz hf
    unfold rZ_isBefore_l
    rw [sA_eq]
    by_cases e : Q = P / 16 * 16
    · have g1 : q < p / 16 * 16 := by rw [lt_i, eb]; omega
      have g2 : ¬ p / 16 * 16 ≤ q := by rw [le_i, eb]; omega
      rw [if_pos g1, if_neg g2]
      exact Or.inl ⟨rfl, fun m m1 m2 => hz m (by omega) m2⟩
    · have g1 : ¬ q < p / 16 * 16 := by rw [lt_i, eb]; omega
      have g2 : p / 16 * 16 ≤ q := by rw [le_i, eb]; omega
      rw [if_neg g1]
      have ht : q.toNatClampNeg = Q - 1 := by have := tn_of (x := q) (by omega); omega
      by_cases g3 : u' q.toNatClampNeg = 0
      · rw [if_pos g3]
        have e1 : (q + -1).toInt = q.toInt + -1 := addc rfl (by omega) (by omega)
        refine ih (q + -1) (Q - 1) (by omega) (by omega) (by omega) (fun m m1 m2 => ?_) (by omega)
        by_cases e2 : m = Q - 1
        · rw [e2, ← ht]; exact g3
        · exact hz m (by omega) m2
      · rw [if_neg g3, if_pos g2]
        have hb : rZ_bitsAt j (sA c u' 12) q = B (Q - 1) := by
          rw [← ht]
          exact hB q (by omega) (by omega)
        rw [hb]
        rw [ht] at g3
        exact Or.inr ⟨Q - 1, by omega, by omega, g3, fun k k1 k2 => hz k (by omega) k2, rfl⟩
theorem isb {j : Nat → Int32} {c : Nat → Nat → Int32} {B u' : Nat → Int32} {S : Nat} (hB : ∀ p : Int32, 0 ≤ p.toInt → p.toInt < 256 → rZ_bitsAt j c p = B p.toNatClampNeg) (s1 : S ≤ 256) (hc : CH B u' S) {p : Int32} {P : Nat} (hp : p.toInt = P) (P0 : 48 ≤ P) (P1 : P < S) (hu : ¬ u' P = 0) {b x : Int32} (hT : ∀ w : Int32, ¬ tst x b w = 0 → szn w = 4) : rZ_isBefore j (sA c u' 12) p b x = if 4 ≤ P % 16 ∧ ¬ u' (P - 4) = 0 ∧ ¬ tst x b (B (P - 4)) = 0 then 1 else 0 := by
  unfold rZ_isBefore
  have e1 : (p - 1).toInt = p.toInt - 1 := by rw [sub_i (by rw [c1]; omega) (by rw [c1]; omega), c1]
  rcases scan (u' := u') hB hp P0 (by omega) b x ((Int32.toInt (p - 1) + 1).toNat + 1) (p - 1) P (by omega) (by omega) (by omega) (fun m m1 m2 => by omega) (by omega) with ⟨r, hz⟩ | ⟨m, m1, m2, m3, m4, r⟩
  · rw [r, if_neg]
    intro q
    exact q.2.1 (hz (P - 4) (by omega) (by omega))
  · rw [r]
    by_cases ht : tst x b (B m) = 0
    · rw [ht, if_neg]
      intro ⟨q1, q2, q3⟩
      have e4 := hT _ q3
      obtain ⟨x1, x2, x3, x4, x5, x6, x7⟩ := hc (P - 4) (by omega) q2
      rw [e4] at x6
      have hm : m = P - 4 := by
        refine Classical.byContradiction fun hne => ?_
        by_cases hlt : m < P - 4
        · exact q2 (m4 (P - 4) hlt (by omega))
        · exact m3 (x6 m (by omega) (by omega))
      rw [hm] at ht
      exact q3 ht
    · have e4 := hT _ ht
      obtain ⟨x1, x2, x3, x4, x5, x6, x7⟩ := hc m (by omega) m3
      rw [e4] at x6 x7
      have hge : m + 4 ≤ P := by
        refine Classical.byContradiction fun hne => ?_
        exact hu (x6 P (by omega) (by omega))
      have hm : m = P - 4 := by
        rcases x7 with x7 | ⟨x7, x8⟩
        · omega
        · refine Classical.byContradiction fun hne => ?_
          exact x8 (m4 (m + 4) (by omega) (by omega))
      rw [if_pos ⟨by omega, by rw [← hm]; exact m3, by rw [← hm]; exact ht⟩]
      rcases tst_zo x b (B m) with e | e
      · exact absurd e ht
      · exact e
theorem befl {j : Nat → Int32} {c : Nat → Nat → Int32} {u' : Nat → Int32} {M : Nat} (hM : ¬ u' M = 0) (M1 : M < 256) : ∀ (f : Nat) (q : Int32) (Q : Nat), q.toInt + 1 = Q → M < Q → Q < 256 → (∀ m : Nat, M < m → m < Q → u' m = 0) → Q < f → (rZ_before_l f j (sA c u' 12) q).toInt = M := by
  intro f
  induction f with
  | zero => intro q Q _ _ _ _ h; exact absurd h (Nat.not_lt_zero _)
  | succ f ih =>
    intro q Q hq h0 h1 hz hf
    unfold rZ_before_l
    rw [sA_eq]
    have ht : q.toNatClampNeg = Q - 1 := by have := tn_of (x := q) (by omega); omega
    by_cases e : Q - 1 = M
    · rw [ht, e, if_neg hM]
      omega
    · have hz1 : u' q.toNatClampNeg = 0 := by rw [ht]; exact hz (Q - 1) (by omega) (by omega)
      rw [if_pos hz1]
      have e1 : (q + -1).toInt = q.toInt + -1 := addc rfl (by omega) (by omega)
      exact ih (q + -1) (Q - 1) (by omega) (by omega) (by omega) (fun m m1 m2 => hz m m1 (by omega)) (by omega)
theorem tst_0 (b w : Int32) : ¬ tst 0 b w = 0 ↔ w = b := by
  unfold tst
  rw [if_pos rfl, Int32.and_neg_one, Int32.and_neg_one]
  by_cases h : w = b
  · rw [if_pos h]; simp [h]
  · rw [if_neg h]; simp [h]
theorem tst_1 (w : Int32) : ¬ tst 1 28344243 w = 0 ↔ w &&& -1015809 = 28344243 := by
  unfold tst
  rw [if_neg (by decide), show (28344243 : Int32) &&& -1015809 = 28344243 by decide]
  by_cases h : w &&& -1015809 = 28344243
  · rw [if_pos h]; simp [h]
  · rw [if_neg h]; simp [h]
theorem szn_4 {w : Int32} (h : ¬ rZ_isLong w = 0) : szn w = 4 := by unfold szn; rw [if_neg h]
theorem hT_base : ∀ w : Int32, ¬ tst 0 30404531 w = 0 → szn w = 4 := fun w h => by
  rw [tst_0] at h
  subst h
  exact szn_4 (by rw [long_3]; decide)
theorem hT_mask : ∀ w : Int32, ¬ tst 0 31457203 w = 0 → szn w = 4 := fun w h => by
  rw [tst_0] at h
  subst h
  exact szn_4 (by rw [long_3]; decide)
theorem hT_code : ∀ w : Int32, ¬ tst 1 28344243 w = 0 → szn w = 4 := fun w h => by
  rw [tst_1] at h
  exact szn_4 (o_long ((cm_bits w).mp h).1.1 (by decide))
/-- the class's word so many bytes before -/
theorem bfr {i : Nat → Int32} {a : Nat → Nat → Int32} {B u u' : Nat → Int32} {S : Nat} (hS : (i 5).toInt = S) (s1 : S ≤ 256) (hc : CH B u' S) (hx : XA B u u' S) {p : Int32} {P : Nat} (hp : p.toInt = P) (P0 : 48 ≤ P) (P1 : P < S) {q : Int32} {Q : Nat} (hq : q.toInt = Q) (q1 : Q ≤ 8) : rK_before i (sA a u 13) p q = if Q ≤ P % 16 ∧ ¬ u' (P - Q) = 0 then B (P - Q) else 0 := by
  unfold rK_before
  have er : (p - p / 16 * 16).toInt = ((P % 16 : Nat) : Int) := by rw [rem16_i, if_pos (by omega), hp]; omega
  by_cases h : Q ≤ P % 16
  · rw [if_neg (show ¬ p - p / 16 * 16 < q by rw [lt_i, er]; omega), bgn hS s1 hc hx]
    have e1 : (p - q).toInt = p.toInt - q.toInt := sub_i (by omega) (by omega)
    have ht : (p - q).toNatClampNeg = P - Q := by have := tn_of (x := p - q) (by omega); omega
    rw [ht]
    by_cases h2 : u' (P - Q) = 0
    · rw [if_neg (fun z => z.2.2 h2), if_neg (fun z => z.2 h2)]
    · rw [if_pos ⟨by omega, by omega, h2⟩, if_pos ⟨h, h2⟩]
  · rw [if_pos (show p - p / 16 * 16 < q by rw [lt_i, er]; omega), if_neg (fun z => h z.1)]
theorem c8 : (8 : Int32).toInt = 8 := rfl
theorem fenced_eq {i : Nat → Int32} {a : Nat → Nat → Int32} {j : Nat → Int32} {c : Nat → Nat → Int32} {B u u' : Nat → Int32} {S : Nat} (hB : ∀ p : Int32, 0 ≤ p.toInt → p.toInt < 256 → rZ_bitsAt j c p = B p.toNatClampNeg) (hS : (i 5).toInt = S) (s1 : S ≤ 256) (hc : CH B u' S) (hx : XA B u u' S) {p : Int32} {P : Nat} (hp : p.toInt = P) (P0 : 48 ≤ P) (P1 : P < S) (hu : ¬ u' P = 0) : rK_isDataFenced i (sA a u 13) p = if rZ_isBefore j (sA c u' 12) p (rZ_made 3 31 31 28) 0 = 0 then 0 else if rZ_isBefore j (sA c u' 12) (rZ_before j (sA c u' 12) p) (rZ_made 2 31 31 29) 0 = 0 then 0 else 1 := by
  unfold rK_isDataFenced
  rw [bfr hS s1 hc hx hp P0 P1 (Q := 8) rfl (by decide), bfr hS s1 hc hx hp P0 P1 (Q := 4) rfl (by decide), md_base, md_mask, isb hB s1 hc hp P0 P1 hu hT_base]
  by_cases h : 4 ≤ P % 16 ∧ ¬ u' (P - 4) = 0 ∧ ¬ tst 0 30404531 (B (P - 4)) = 0
  · rw [if_pos h, if_neg (show ¬ (1 : Int32) = 0 by decide)]
    obtain ⟨h1, h2, h3⟩ := h
    have e4 := hT_base _ h3
    rw [tst_0] at h3
    have ch := hc (P - 4) (by omega) h2
    have hbf : (rZ_before j (sA c u' 12) p).toInt = ((P - 4 : Nat) : Int) := by
      unfold rZ_before
      have e1 : (p - 1).toInt = p.toInt - 1 := by rw [sub_i (by rw [c1]; omega) (by rw [c1]; omega), c1]
      refine befl h2 (by omega) _ (p - 1) P (by omega) (by omega) (by omega) (fun m m1 m2 => ?_) (by omega)
      exact ch.2.2.2.2.2.1 m m1 (by rw [e4]; omega)
    rw [isb hB s1 hc hbf ch.1 (by omega) h2 hT_mask, show P - 4 - 4 = P - 8 by omega, if_pos (show 4 ≤ P % 16 ∧ ¬ u' (P - 4) = 0 from ⟨h1, h2⟩)]
    by_cases h5 : 8 ≤ P % 16 ∧ ¬ u' (P - 8) = 0
    · rw [if_pos h5]
      by_cases h6 : B (P - 8) = 31457203
      · rw [if_pos h6, if_pos h3, if_pos (show 4 ≤ (P - 4) % 16 ∧ ¬ u' (P - 8) = 0 ∧ ¬ tst 0 31457203 (B (P - 8)) = 0 from ⟨by omega, h5.2, (tst_0 _ _).mpr h6⟩), if_neg (show ¬ (1 : Int32) = 0 by decide)]
      · rw [if_neg h6, if_neg (show ¬ (4 ≤ (P - 4) % 16 ∧ ¬ u' (P - 8) = 0 ∧ ¬ tst 0 31457203 (B (P - 8)) = 0) from fun z => h6 ((tst_0 _ _).mp z.2.2)), if_pos rfl]
    · rw [if_neg h5, if_neg (show ¬ (0 : Int32) = 31457203 by decide), if_neg (show ¬ (4 ≤ (P - 4) % 16 ∧ ¬ u' (P - 8) = 0 ∧ ¬ tst 0 31457203 (B (P - 8)) = 0) from fun z => h5 ⟨by omega, z.2.1⟩), if_pos rfl]
  · rw [if_neg h, if_pos rfl]
    by_cases h5 : 4 ≤ P % 16 ∧ ¬ u' (P - 4) = 0
    · rw [if_pos h5, if_neg (show ¬ B (P - 4) = 30404531 from fun e => h ⟨h5.1, h5.2, (tst_0 _ _).mpr e⟩), ite_self]
    · rw [if_neg h5, if_neg (show ¬ (0 : Int32) = 30404531 by decide), ite_self]
theorem coded_eq {i : Nat → Int32} {a : Nat → Nat → Int32} {j : Nat → Int32} {c : Nat → Nat → Int32} {B u u' : Nat → Int32} {S : Nat} (hB : ∀ p : Int32, 0 ≤ p.toInt → p.toInt < 256 → rZ_bitsAt j c p = B p.toNatClampNeg) (hS : (i 5).toInt = S) (s1 : S ≤ 256) (hc : CH B u' S) (hx : XA B u u' S) {p : Int32} {P : Nat} (hp : p.toInt = P) (P0 : 48 ≤ P) (P1 : P < S) (hu : ¬ u' P = 0) : rK_isCodeMask i (sA a u 13) (rK_before i (sA a u 13) p 4) = rZ_isBefore j (sA c u' 12) p (rZ_made 2 31 0 27) 1 := by
  rw [bfr hS s1 hc hx hp P0 P1 (Q := 4) rfl (by decide), md_code, isb hB s1 hc hp P0 P1 hu hT_code, cmk_eq]
  by_cases h5 : 4 ≤ P % 16 ∧ ¬ u' (P - 4) = 0
  · rw [if_pos h5]
    by_cases h6 : B (P - 4) &&& -1015809 = 28344243
    · rw [if_pos h6, if_pos ⟨h5.1, h5.2, (tst_1 _).mpr h6⟩]
    · rw [if_neg h6, if_neg (fun z => h6 ((tst_1 _).mp z.2.2))]
  · rw [if_neg h5, if_neg (show ¬ (0 : Int32) &&& -1015809 = 28344243 by decide), if_neg (fun z => h5 ⟨z.1, z.2.1⟩)]

/-! the law's loop and its start, over any invariant of the two states that the seventeen calls keep -/
section LWN
variable {p : Program} {l : Launch} {e : Env} {s : State} {m : MethodId} {args : Array Value} {below : List Frame} {meth : Method} {c : Code} {H : Heap} {locs : List Loc} {Q : State → Prop} {D : va_G} {cI cZ : ClassId} {b : Nat}
variable {q : am_Sg} {pc : Nat} {rest as : List Value} {ab ab1 : List am_Cl} {k n idx : Nat} {v : Option Value} {ls : Array Slot}
theorem lc_new {ci : Nat} {C : String} {T : u_T} (hx : p.tables.exec = Jvm.exec) (hb : c.code = code) (hown : s.vm.findClass RL = some m.cls) (hts : ∀ w ∈ am_gw, w.before args s = true) (hKs : am_K D cI cZ s) (hH : am_H D cI cZ b ab H) (hS : va_S (fun q => b ≤ q) s.heap H locs)
    (hd : decode code pc = .ok (.new idx, 3)) (hc0 : vwCl[ci]? = some (C, T, (am_df ci).length)) (hcl : Cond.classLink RL idx C ∈ am_gw) (hins : Cond.instantiable C (am_df ci).length ∈ am_gw) (hini : Cond.initialized C ∈ am_gw) (h1 : k + 1 ≤ 52) (h2 : n + (am_df ci).length ≤ 1972)
    (hk : ∀ H1 : Heap, am_H D cI cZ b (ab ++ [.inr (ci, am_df ci)]) H1 → va_S (fun q => b ≤ q) s.heap H1 locs → W p l e room_1 s m args below meth c H1 locs (k + 1) (n + (am_df ci).length) Q (F0 m (pc + 3) ls ((.ref ab.length :: rest).map (am_v b)))) : W p l e room_1 s m args below meth c H locs k n Q (F0 m pc ls (rest.map (am_v b))) := by
  obtain ⟨ty0, hin, hty0, hnm0, hdf, hmap⟩ := am_cls hc0
  have hKn := hKs.1.1 ci _ hc0
  refine W.newcK hx hb hown (hts _ hcl) (hts _ hins) (hts _ hini) rfl hd h1 h2 hKn.2.1 hH.1 fun H1 kC hkC e1 z1 o1 => ?_
  refine hk H1 (am_H_new hH (by rw [z1, hH.1]) ?_ (by rw [hH.1]; exact o1)) (am_S_new hS (by rw [z1, hH.1]) (by rw [hH.1]; exact o1))
  refine ⟨_, hc0, ?_⟩
  show t_OB _ _ _ _ _ (vp_V ((am_df ci).map (am_v b)))
  rw [hmap]
  exact (u_born ty0 hts hin hKn hkC e1 hty0).to hdf
theorem lc_init {i : Nat} (hx : p.tables.exec = Jvm.exec) (hb : c.code = code) (hml : c.maxLocals = 4) (hown : s.vm.findClass RL = some m.cls) (hts : ∀ w ∈ am_gw, w.before args s = true) (hKs : am_K D cI cZ s) (hls : ls.size = 4) (hH : am_H D cI cZ b ab H) (hS : va_S (fun q => b ≤ q) s.heap H locs)
    (hd : decode code pc = .ok (.invokespecial idx, 3)) (hE : am_Ev q (.ref i :: as) ab v ab1) (hq : am_qk sLaw q as.length) (hin : Cond.instanceMethod (am_y q) ∈ am_gw) (hnm : (am_y q).name = "<init>") (hrt : am_r q = none) (hl : Cond.methodLink RL idx (am_y q) ∈ am_gw) (h8 : am_ct rest ≤ 8) (h1 : k + (am_rm q).cells ≤ 52) (h2 : n + (am_rm q).slots ≤ 1972)
    (hk : ∀ (H1 : Heap) (locs1 : List Loc), am_H D cI cZ b ab1 H1 → va_S (fun q => b ≤ q) s.heap H1 locs1 → W p l e room_1 s m args below meth c H1 locs1 (k + (am_rm q).cells) (n + (am_rm q).slots) Q (F0 m (pc + 3) ls ((v.toList ++ rest).map (am_v b)))) : W p l e room_1 s m args below meth c H locs k n Q (F0 m pc ls ((as.reverse ++ .ref i :: rest).map (am_v b))) := by
  obtain ⟨y, cc, ml, rt, rm⟩ := q
  have hrt : rt = none := hrt
  subst hrt
  have hp : PreS s H (fun a U => a = ((Value.ref i :: as).map (am_v b)).toArray ∧ am_H D cI cZ b ab U.heap ∧ am_K D cI cZ U) (.ref (b + i) :: as.map (am_v b)) := ⟨am_blind D cI cZ b (.ref i :: as) ab, fun U hU hW => ⟨rfl, by rw [hU]; exact hH, am_K_warm hW hKs⟩⟩
  refine am_after (va_runI (As := as.map (am_v b)) (b := b + i) (rest := rest.map (am_v b)) (nL := 4) (Ts := am_gw) (own := RL) ⟨hx, hb, hml, hown, hts⟩ (hE.2 l D cI cZ b) ⟨callB_of as.length hts (am_good hE.1) rfl rfl rfl (hts _ hq.2.2) (hts _ hl) hq.1 hq.2.1, hnm, hts _ hin⟩ hp rfl (by simp) hls (by simp [List.map_reverse, am_v]) (am_room8 b h8) hd ⟨h1, h2⟩) hS ?_
  intro H1 locs1 g1 g2
  rw [am_stk]
  exact hk H1 locs1 g1 g2
end LWN
/-- a call of both: the same answer, and the states still agree -/
def OPK (Inv : (Nat → Int32) → (Nat → Nat → Int32) → (Nat → Int32) → (Nat → Nat → Int32) → Prop) (sx sz : am_Sg) (as : List Value) : Prop :=
  ∀ (i : Nat → Int32) (a : Nat → Nat → Int32) (j : Nat → Int32) (c : Nat → Nat → Int32), Inv i a j c → ∃ (r : Int32) (i' : Nat → Int32) (a' : Nat → Nat → Int32) (j' : Nat → Int32) (c' : Nat → Nat → Int32), am_Ev sx (.ref 0 :: as) (wX i a (wZ j c)) (some (.int r)) (wX i' a' (wZ j c)) ∧ am_Ev sz (.ref 30 :: as) (wX i' a' (wZ j c)) (some (.int r)) (wX i' a' (wZ j' c')) ∧ Inv i' a' j' c'
def LOPS (Inv : (Nat → Int32) → (Nat → Nat → Int32) → (Nat → Int32) → (Nat → Nat → Int32) → Prop) : Prop :=
  (∀ v1 v2 v3 v4 : Int32, OPK Inv sX_encode sZ_encode [.int v1, .int v2, .int v3, .int v4]) ∧
  (∀ v1 : Int32, OPK Inv sX_kind sZ_kind [.int v1]) ∧
  (∀ v1 v2 v3 v4 : Int32, OPK Inv sX_line sZ_line [.int v1, .int v2, .int v3, .int v4]) ∧
  (OPK Inv sX_clear sZ_clear []) ∧
  (OPK Inv sX_build sZ_build []) ∧
  (∀ v1 : Int32, OPK Inv sX_address sZ_address [.int v1]) ∧
  (∀ v1 : Int32, OPK Inv sX_length sZ_length [.int v1]) ∧
  (∀ v1 v2 : Int32, OPK Inv sX_poke sZ_poke [.int v1, .int v2]) ∧
  (∀ v1 : Int32, OPK Inv sX_peek sZ_peek [.int v1]) ∧
  (OPK Inv sX_check sZ_check []) ∧
  (∀ v1 : Int32, OPK Inv sX_input sZ_input [.int v1]) ∧
  (∀ v1 : Int32, OPK Inv sX_run sZ_run [.int v1]) ∧
  (∀ v1 : Int32, OPK Inv sX_trial sZ_trial [.int v1]) ∧
  (∀ v1 v2 : Int32, OPK Inv sX_state sZ_state [.int v1, .int v2]) ∧
  (∀ v1 v2 : Int32, OPK Inv sX_output sZ_output [.int v1, .int v2]) ∧
  (∀ v1 v2 : Int32, OPK Inv sX_register sZ_register [.int v1, .int v2]) ∧
  (∀ v1 v2 : Int32, OPK Inv sX_word sZ_word [.int v1, .int v2])
theorem lw_idx {x : Int32} {L : Nat} {k : Int32} (hL : L ≤ 320) (h0 : 0 ≤ x.toInt) (h1 : x.toInt + 5 ≤ L) (hk0 : 0 ≤ k.toInt) (hk : k.toInt < 5) : vp_in (x + k) L := in_off h0 hk0 (by omega) (by omega)
theorem lw_more {x : Int32} {L : Nat} (hL : L ≤ 320) (h : ¬ (Int32.ofNat L - 5) < x) : x.toInt + 5 ≤ L := by
  have e1 : (Int32.ofNat L).toInt = L := Int32.toInt_ofNat_of_lt (by omega)
  rw [lt_i, sub_i (by rw [e1]; simp; omega) (by rw [e1]; simp; omega), e1] at h
  simp at h
  omega
set_option maxHeartbeats 4000000 in
set_option maxRecDepth 100000 in
theorem lw_loop {Inv : (Nat → Int32) → (Nat → Nat → Int32) → (Nat → Int32) → (Nat → Nat → Int32) → Prop} (hop : LOPS Inv) {p : Program} {l : Launch} {e : Env} {s : State} {m : MethodId} {args : Array Value} {below : List Frame} {meth : Method} {c : Code} {Q : State → Prop} {D : va_G} {cI cZ : ClassId} {b L : Nat} {xs : Nat → Int32} (hL : L ≤ 320) (C0 : LC p s m args c b L xs D cI cZ)
    (hend : ∀ (H : Heap) (locs : List Loc) (ls : Array Slot), va_S (fun q => s.heap.size ≤ q) s.heap H locs → W p l e room_1 s m args below meth c H locs 52 1972 Q (F0 m 593 ls [])) :
    ∀ (f : Nat) (x : Int32) (i : Nat → Int32) (a : Nat → Nat → Int32) (j : Nat → Int32) (cc : Nat → Nat → Int32) (H : Heap) (locs : List Loc) (ls : Array Slot), (L - x.toInt).toNat < f → 0 ≤ x.toInt → Inv i a j cc → am_H D cI cZ s.heap.size (wX i a (wZ j cc)) H → va_S (fun q => s.heap.size ≤ q) s.heap H locs → lv_has ls 4 [(0, .ref b), (1, .ref (s.heap.size + 0)), (2, .ref (s.heap.size + 30)), (3, .int x)] → W p l e room_1 s m args below meth c H locs 52 1972 Q (F0 m 18 ls []) := by
  obtain ⟨hx, hb, hml, hown, hts, hKs, hX, hbl⟩ := id C0
  have hbA : ¬ (fun q : Nat => s.heap.size ≤ q) b := Nat.not_le.mpr hbl
  intro f
  induction f with
  | zero => intro x i a j cc H locs ls hm; exact absurd hm (Nat.not_lt_zero _)
  | succ f ih =>
    intro x i a j cc H locs ls hm h0 hI hH hS hl
    refine lv_iload_n hx hb dl_18 rfl (lv_at hl 3 rfl) ?_
    refine lv_aload_n hx hb dl_19 rfl (lv_at hl 0 rfl) ?_
    refine va_slen hx hb hX hbl hbA hS dl_20 ?_
    refine lv_iconst (v := 5) hx hb dl_21 (by decide) ?_
    refine lv_isub hx hb dl_22 ?_
    refine lv_icmp_gt (tgt := 593) hx hb dl_23 (by decide) (fun _ => hend H locs ls hS) (fun hlt => ?_)
    have hle := lw_more hL hlt
    have hix : vp_in x L := by rw [vp_in_iff]; omega
    have g1 : vp_in (x + 1) L := lw_idx hL h0 hle (by decide) (by decide)
    have g2 : vp_in (x + 2) L := lw_idx hL h0 hle (by decide) (by decide)
    have g3 : vp_in (x + 3) L := lw_idx hL h0 hle (by decide) (by decide)
    have g4 : vp_in (x + 4) L := lw_idx hL h0 hle (by decide) (by decide)
    have next : ∀ (i' : Nat → Int32) (a' : Nat → Nat → Int32) (j' : Nat → Int32) (c' : Nat → Nat → Int32) (H1 : Heap) (locs1 : List Loc), Inv i' a' j' c' → am_H D cI cZ s.heap.size (wX i' a' (wZ j' c')) H1 → va_S (fun q => s.heap.size ≤ q) s.heap H1 locs1 → W p l e room_1 s m args below meth c H1 locs1 52 1972 Q (F0 m 587 ls []) := by
      intro i' a' j' c' H1 locs1 hI' hH' hS'
      refine lv_iinc (v := x + 5) (lv' := [(3, .int (x + 5)), (0, .ref b), (1, .ref (s.heap.size + 0)), (2, .ref (s.heap.size + 30))]) hx hb dl_587 hl (k := 3) rfl rfl (by decide) rfl (fun ls hl => ?_)
      refine lv_goto (tgt := 18) hx hb dl_590 (by decide) ?_
      have e5 : (x + 5).toInt = x.toInt + 5 := by rw [add_i (by simp; omega) (by simp; omega)]; rfl
      exact ih (x + 5) i' a' j' c' H1 locs1 ls (by rw [e5]; omega) (by rw [e5]; omega) hI' hH' hS' (lv_sub hl [1, 2, 3, 0] rfl)
    refine lv_aload_n hx hb dl_26 rfl (lv_at hl 0 rfl) ?_
    refine lv_iload_n hx hb dl_27 rfl (lv_at hl 3 rfl) ?_
    refine va_sld hx hb hX hbl hbA hS hix dl_28 ?_
    refine lv_bipush (v := 31) hx hb dl_29 (by decide) ?_
    refine lv_iand hx hb dl_31 ?_
    generalize xs x.toNatClampNeg &&& 31 = y
    obtain ⟨o0, o1, o2, o3, o4, o5, o6, o7, o8, o9, o10, o11, o12, o13, o14, o15, o16⟩ := hop
    by_cases hy0 : y.toInt < 0
    · exact lv_tableOut (tgt := 587) hx hb dl_32 (Or.inl hy0) (by decide) (next i a j cc H locs hI hH hS)
    by_cases hy1 : 16 < y.toInt
    · exact lv_tableOut (tgt := 587) hx hb dl_32 (Or.inr hy1) (by decide) (next i a j cc H locs hI hH hS)
    have hcs : y.toInt = 0 ∨ y.toInt = 1 ∨ y.toInt = 2 ∨ y.toInt = 3 ∨ y.toInt = 4 ∨ y.toInt = 5 ∨ y.toInt = 6 ∨ y.toInt = 7 ∨ y.toInt = 8 ∨ y.toInt = 9 ∨ y.toInt = 10 ∨ y.toInt = 11 ∨ y.toInt = 12 ∨ y.toInt = 13 ∨ y.toInt = 14 ∨ y.toInt = 15 ∨ y.toInt = 16 := by omega
    rcases hcs with hy | hy | hy | hy | hy | hy | hy | hy | hy | hy | hy | hy | hy | hy | hy | hy | hy
    · refine lv_tableIn (tgt := 116) (off := 84) hx hb dl_32 hy0 hy1 (by rw [hy]; rfl) (by decide) ?_
      obtain ⟨r, i', a', j', c', E1, E2, hI'⟩ := o0 (lA xs x 1) (lA xs x 2) (lA xs x 3) (lA xs x 4) i a j cc hI
      exact lw_c0 C0 hl g1 g2 g3 g4 E1 rfl E2 hH hS (fun H1 locs1 hH1 hS1 => next i' a' j' c' H1 locs1 hI' hH1 hS1)
    · refine lv_tableIn (tgt := 169) (off := 137) hx hb dl_32 hy0 hy1 (by rw [hy]; rfl) (by decide) ?_
      obtain ⟨r, i', a', j', c', E1, E2, hI'⟩ := o1 (lA xs x 1) i a j cc hI
      exact lw_c1 C0 hl g1 E1 rfl E2 hH hS (fun H1 locs1 hH1 hS1 => next i' a' j' c' H1 locs1 hI' hH1 hS1)
    · refine lv_tableIn (tgt := 192) (off := 160) hx hb dl_32 hy0 hy1 (by rw [hy]; rfl) (by decide) ?_
      obtain ⟨r, i', a', j', c', E1, E2, hI'⟩ := o2 (lA xs x 1) (lA xs x 2) (lA xs x 3) (lA xs x 4) i a j cc hI
      exact lw_c2 C0 hl g1 g2 g3 g4 E1 rfl E2 hH hS (fun H1 locs1 hH1 hS1 => next i' a' j' c' H1 locs1 hI' hH1 hS1)
    · refine lv_tableIn (tgt := 245) (off := 213) hx hb dl_32 hy0 hy1 (by rw [hy]; rfl) (by decide) ?_
      obtain ⟨r, i', a', j', c', E1, E2, hI'⟩ := o3  i a j cc hI
      exact lw_c3 C0 hl  E1 rfl E2 hH hS (fun H1 locs1 hH1 hS1 => next i' a' j' c' H1 locs1 hI' hH1 hS1)
    · refine lv_tableIn (tgt := 258) (off := 226) hx hb dl_32 hy0 hy1 (by rw [hy]; rfl) (by decide) ?_
      obtain ⟨r, i', a', j', c', E1, E2, hI'⟩ := o4  i a j cc hI
      exact lw_c4 C0 hl  E1 rfl E2 hH hS (fun H1 locs1 hH1 hS1 => next i' a' j' c' H1 locs1 hI' hH1 hS1)
    · refine lv_tableIn (tgt := 271) (off := 239) hx hb dl_32 hy0 hy1 (by rw [hy]; rfl) (by decide) ?_
      obtain ⟨r, i', a', j', c', E1, E2, hI'⟩ := o5 (lA xs x 1) i a j cc hI
      exact lw_c5 C0 hl g1 E1 rfl E2 hH hS (fun H1 locs1 hH1 hS1 => next i' a' j' c' H1 locs1 hI' hH1 hS1)
    · refine lv_tableIn (tgt := 294) (off := 262) hx hb dl_32 hy0 hy1 (by rw [hy]; rfl) (by decide) ?_
      obtain ⟨r, i', a', j', c', E1, E2, hI'⟩ := o6 (lA xs x 1) i a j cc hI
      exact lw_c6 C0 hl g1 E1 rfl E2 hH hS (fun H1 locs1 hH1 hS1 => next i' a' j' c' H1 locs1 hI' hH1 hS1)
    · refine lv_tableIn (tgt := 317) (off := 285) hx hb dl_32 hy0 hy1 (by rw [hy]; rfl) (by decide) ?_
      obtain ⟨r, i', a', j', c', E1, E2, hI'⟩ := o7 (lA xs x 1) (lA xs x 2) i a j cc hI
      exact lw_c7 C0 hl g1 g2 E1 rfl E2 hH hS (fun H1 locs1 hH1 hS1 => next i' a' j' c' H1 locs1 hI' hH1 hS1)
    · refine lv_tableIn (tgt := 350) (off := 318) hx hb dl_32 hy0 hy1 (by rw [hy]; rfl) (by decide) ?_
      obtain ⟨r, i', a', j', c', E1, E2, hI'⟩ := o8 (lA xs x 1) i a j cc hI
      exact lw_c8 C0 hl g1 E1 rfl E2 hH hS (fun H1 locs1 hH1 hS1 => next i' a' j' c' H1 locs1 hI' hH1 hS1)
    · refine lv_tableIn (tgt := 373) (off := 341) hx hb dl_32 hy0 hy1 (by rw [hy]; rfl) (by decide) ?_
      obtain ⟨r, i', a', j', c', E1, E2, hI'⟩ := o9  i a j cc hI
      exact lw_c9 C0 hl  E1 rfl E2 hH hS (fun H1 locs1 hH1 hS1 => next i' a' j' c' H1 locs1 hI' hH1 hS1)
    · refine lv_tableIn (tgt := 386) (off := 354) hx hb dl_32 hy0 hy1 (by rw [hy]; rfl) (by decide) ?_
      obtain ⟨r, i', a', j', c', E1, E2, hI'⟩ := o10 (lA xs x 1) i a j cc hI
      exact lw_c10 C0 hl g1 E1 rfl E2 hH hS (fun H1 locs1 hH1 hS1 => next i' a' j' c' H1 locs1 hI' hH1 hS1)
    · refine lv_tableIn (tgt := 409) (off := 377) hx hb dl_32 hy0 hy1 (by rw [hy]; rfl) (by decide) ?_
      obtain ⟨r, i', a', j', c', E1, E2, hI'⟩ := o11 (lA xs x 1) i a j cc hI
      exact lw_c11 C0 hl g1 E1 rfl E2 hH hS (fun H1 locs1 hH1 hS1 => next i' a' j' c' H1 locs1 hI' hH1 hS1)
    · refine lv_tableIn (tgt := 432) (off := 400) hx hb dl_32 hy0 hy1 (by rw [hy]; rfl) (by decide) ?_
      obtain ⟨r, i', a', j', c', E1, E2, hI'⟩ := o12 (lA xs x 1) i a j cc hI
      exact lw_c12 C0 hl g1 E1 rfl E2 hH hS (fun H1 locs1 hH1 hS1 => next i' a' j' c' H1 locs1 hI' hH1 hS1)
    · refine lv_tableIn (tgt := 455) (off := 423) hx hb dl_32 hy0 hy1 (by rw [hy]; rfl) (by decide) ?_
      obtain ⟨r, i', a', j', c', E1, E2, hI'⟩ := o13 (lA xs x 1) (lA xs x 2) i a j cc hI
      exact lw_c13 C0 hl g1 g2 E1 rfl E2 hH hS (fun H1 locs1 hH1 hS1 => next i' a' j' c' H1 locs1 hI' hH1 hS1)
    · refine lv_tableIn (tgt := 488) (off := 456) hx hb dl_32 hy0 hy1 (by rw [hy]; rfl) (by decide) ?_
      obtain ⟨r, i', a', j', c', E1, E2, hI'⟩ := o14 (lA xs x 1) (lA xs x 2) i a j cc hI
      exact lw_c14 C0 hl g1 g2 E1 rfl E2 hH hS (fun H1 locs1 hH1 hS1 => next i' a' j' c' H1 locs1 hI' hH1 hS1)
    · refine lv_tableIn (tgt := 521) (off := 489) hx hb dl_32 hy0 hy1 (by rw [hy]; rfl) (by decide) ?_
      obtain ⟨r, i', a', j', c', E1, E2, hI'⟩ := o15 (lA xs x 1) (lA xs x 2) i a j cc hI
      exact lw_c15 C0 hl g1 g2 E1 rfl E2 hH hS (fun H1 locs1 hH1 hS1 => next i' a' j' c' H1 locs1 hI' hH1 hS1)
    · refine lv_tableIn (tgt := 554) (off := 522) hx hb dl_32 hy0 hy1 (by rw [hy]; rfl) (by decide) ?_
      obtain ⟨r, i', a', j', c', E1, E2, hI'⟩ := o16 (lA xs x 1) (lA xs x 2) i a j cc hI
      exact lw_c16 C0 hl g1 g2 E1 rfl E2 hH hS (fun H1 locs1 hH1 hS1 => next i' a' j' c' H1 locs1 hI' hH1 hS1)
set_option maxHeartbeats 4000000 in
set_option maxRecDepth 100000 in
theorem lw_begin {Inv : (Nat → Int32) → (Nat → Nat → Int32) → (Nat → Int32) → (Nat → Nat → Int32) → Prop} (hop : LOPS Inv) (hst : Inv i0x a0 i0 a0) {p : Program} {l : Launch} {e : Env} {s : State} {m : MethodId} {args : Array Value} {below : List Frame} {meth : Method} {c : Code} {Q : State → Prop} {D : va_G} {cI cZ : ClassId} {b L : Nat} {xs : Nat → Int32} (hL : L ≤ 320) (C0 : LC p s m args c b L xs D cI cZ)
    (hend : ∀ (H : Heap) (locs : List Loc) (ls : Array Slot), va_S (fun q => s.heap.size ≤ q) s.heap H locs → W p l e room_1 s m args below meth c H locs 52 1972 Q (F0 m 593 ls [])) {ls : Array Slot} (hl : lv_has ls 4 [(0, .ref b)]) : W p l e room_1 s m args below meth c s.heap [] 0 0 Q (F0 m 0 ls []) := by
  obtain ⟨hx, hb, hml, hown, hts, hKs, hX, hbl⟩ := id C0
  have hS : va_S (fun q => s.heap.size ≤ q) s.heap s.heap [] := va_S.rf
  have hH : am_H D cI cZ s.heap.size [] s.heap := ⟨rfl, fun i c h => by simp at h⟩
  refine lc_new (ci := 7) (rest := []) (k := 0) (n := 0) hx hb hown hts hKs hH hS dl_0 rfl (by decide +kernel) (by decide +kernel) (by decide +kernel) (Nat.le_of_ble_eq_true rfl) (Nat.le_of_ble_eq_true rfl) (fun H hH hS => ?_)
  refine W.eq (g2 := F0 m 3 ls [Value.ref (s.heap.size + 0)]) rfl ?_
  refine lv_dup hx hb dl_3 rfl ?_
  refine W.eq (g2 := F0 m 4 ls ((([] : List Value).reverse ++ Value.ref 0 :: [Value.ref 0]).map (am_v s.heap.size))) rfl ?_
  refine lc_init hx hb hml hown hts hKs hl.1 hH hS dl_4 eX_init (am_qkb_ok (show am_qkb sLaw sX_init 0 45 = true by decide +kernel)) (am_at_in (i := 62) (by decide +kernel)) (by decide) rfl (am_at_in (i := 61) (by decide +kernel)) (Nat.le_of_ble_eq_true rfl) (Nat.le_of_ble_eq_true rfl) (Nat.le_of_ble_eq_true rfl) (fun H locs hH hS => ?_)
  refine W.eq (g2 := F0 m 7 ls [Value.ref (s.heap.size + 0)]) rfl ?_
  refine lv_astore_n (lv' := [(1, .ref (s.heap.size + 0)), (0, .ref b)]) hx hb dl_7 rfl hl (by decide) rfl (fun ls hl => ?_)
  refine W.eq (g2 := F0 m 8 ls (([] : List Value).map (am_v s.heap.size))) rfl ?_
  refine lc_new (ci := 8) (rest := []) hx hb hown hts hKs hH hS dl_8 rfl (by decide +kernel) (by decide +kernel) (by decide +kernel) (Nat.le_of_ble_eq_true rfl) (Nat.le_of_ble_eq_true rfl) (fun H hH hS => ?_)
  refine W.eq (g2 := F0 m 11 ls [Value.ref (s.heap.size + 30)]) rfl ?_
  refine lv_dup hx hb dl_11 rfl ?_
  refine W.eq (g2 := F0 m 12 ls ((([] : List Value).reverse ++ Value.ref 30 :: [Value.ref 30]).map (am_v s.heap.size))) rfl ?_
  have hH : am_H D cI cZ s.heap.size (wX i0x a0 [.inr (8, am_df 8)]) H := hH
  refine lc_init hx hb hml hown hts hKs hl.1 hH hS dl_12 (eZ_init i0x a0) (am_qkb_ok (show am_qkb sLaw sZ_init 0 55 = true by decide +kernel)) (am_at_in (i := 751) (by decide +kernel)) (by decide) rfl (am_at_in (i := 750) (by decide +kernel)) (Nat.le_of_ble_eq_true rfl) (Nat.le_of_ble_eq_true rfl) (Nat.le_of_ble_eq_true rfl) (fun H locs hH hS => ?_)
  refine W.eq (g2 := F0 m 15 ls [Value.ref (s.heap.size + 30)]) rfl ?_
  refine lv_astore_n (lv' := [(2, .ref (s.heap.size + 30)), (1, .ref (s.heap.size + 0)), (0, .ref b)]) hx hb dl_15 rfl hl (by decide) rfl (fun ls hl => ?_)
  refine lv_iconst (v := 0) hx hb dl_16 (by decide) ?_
  refine lv_istore_n (lv' := [(3, .int 0), (2, .ref (s.heap.size + 30)), (1, .ref (s.heap.size + 0)), (0, .ref b)]) hx hb dl_17 rfl hl (by decide) rfl (fun ls hl => ?_)
  refine W.widen (k := 52) (n := 1972) (Nat.le_of_ble_eq_true rfl) (Nat.le_of_ble_eq_true rfl) ?_
  exact lw_loop hop hL C0 hend (L + 1) 0 _ _ _ _ H locs ls (by simp) (by decide) hst hH hS (lv_sub hl [3, 2, 1, 0] rfl)

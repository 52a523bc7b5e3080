/-! the law's cases: both calls, the comparison -/
def LC (p : Program) (s : State) (m : MethodId) (args : Array Value) (c : Code) (b L : Nat) (xs : Nat → Int32) (D : va_G) (cI cZ : ClassId) : Prop := p.tables.exec = Jvm.exec ∧ c.code = code ∧ c.maxLocals = 4 ∧ s.vm.findClass RL = some m.cls ∧ (∀ w ∈ am_gw, w.before args s = true) ∧ am_K D cI cZ s ∧ va_X b L xs s s.heap ∧ b < s.heap.size
def lA (xs : Nat → Int32) (x : Int32) (k : Int32) : Int32 := xs (x + k).toNatClampNeg
section LWD
variable {p : Program} {l : Launch} {e : Env} {s : State} {m : MethodId} {args : Array Value} {below : List Frame} {meth : Method} {c : Code} {H : Heap} {locs : List Loc} {Q : State → Prop} {D : va_G} {cI cZ : ClassId} {b L : Nat} {xs : Nat → Int32} {ls : Array Slot} {x r : Int32} {i : Nat → Int32} {a : Nat → Nat → Int32} {j : Nat → Int32} {cc : Nat → Nat → Int32} {W1 W2 : List am_Cl} {fs : List Value}
set_option maxHeartbeats 4000000 in
set_option maxRecDepth 100000 in
theorem lw_c0 (C0 : LC p s m args c b L xs D cI cZ) (hl : lv_has ls 4 [(0, .ref b), (1, .ref (s.heap.size + 0)), (2, .ref (s.heap.size + 30)), (3, .int x)]) (h1 : vp_in (x + 1) L) (h2 : vp_in (x + 2) L) (h3 : vp_in (x + 3) L) (h4 : vp_in (x + 4) L) (hE1 : am_Ev sX_encode [.ref 0, .int (lA xs x 1), .int (lA xs x 2), .int (lA xs x 3), .int (lA xs x 4)] (wX i a (wZ j cc)) (some (.int r)) W1) (hc2 : am_ls W1 30 = some (.inr (8, fs))) (hE2 : am_Ev sZ_encode [.ref 30, .int (lA xs x 1), .int (lA xs x 2), .int (lA xs x 3), .int (lA xs x 4)] W1 (some (.int r)) W2) (hH : am_H D cI cZ s.heap.size (wX i a (wZ j cc)) H) (hS : va_S (fun q => s.heap.size ≤ q) s.heap H locs) (kk : ∀ (H1 : Heap) (locs1 : List Loc), am_H D cI cZ s.heap.size W2 H1 → va_S (fun q => s.heap.size ≤ q) s.heap H1 locs1 → W p l e room_1 s m args below meth c H1 locs1 52 1972 Q (F0 m 587 ls [])) : W p l e room_1 s m args below meth c H locs 52 1972 Q (F0 m 116 ls []) := by
  obtain ⟨hx, hb, hml, hown, hts, hKs, hX, hbl⟩ := C0
  have hbA : ¬ (fun q : Nat => s.heap.size ≤ q) b := Nat.not_le.mpr hbl
  refine lv_aload_n hx hb dl_116 rfl (lv_at hl 1 rfl) ?_
  refine lv_aload_n hx hb dl_117 rfl (lv_at hl 0 rfl) ?_
  refine lv_iload_n hx hb dl_118 rfl (lv_at hl 3 rfl) ?_
  refine lv_iconst (v := 1) hx hb dl_119 (by decide) ?_
  refine lv_iadd hx hb dl_120 ?_
  refine va_sld hx hb hX hbl hbA hS h1 dl_121 ?_
  refine lv_aload_n hx hb dl_122 rfl (lv_at hl 0 rfl) ?_
  refine lv_iload_n hx hb dl_123 rfl (lv_at hl 3 rfl) ?_
  refine lv_iconst (v := 2) hx hb dl_124 (by decide) ?_
  refine lv_iadd hx hb dl_125 ?_
  refine va_sld hx hb hX hbl hbA hS h2 dl_126 ?_
  refine lv_aload_n hx hb dl_127 rfl (lv_at hl 0 rfl) ?_
  refine lv_iload_n hx hb dl_128 rfl (lv_at hl 3 rfl) ?_
  refine lv_iconst (v := 3) hx hb dl_129 (by decide) ?_
  refine lv_iadd hx hb dl_130 ?_
  refine va_sld hx hb hX hbl hbA hS h3 dl_131 ?_
  refine lv_aload_n hx hb dl_132 rfl (lv_at hl 0 rfl) ?_
  refine lv_iload_n hx hb dl_133 rfl (lv_at hl 3 rfl) ?_
  refine lv_iconst (v := 4) hx hb dl_134 (by decide) ?_
  refine lv_iadd hx hb dl_135 ?_
  refine va_sld hx hb hX hbl hbA hS h4 dl_136 ?_
  refine W.eq (g2 := F0 m 137 ls ((([Value.int (lA xs x 1), Value.int (lA xs x 2), Value.int (lA xs x 3), Value.int (lA xs x 4)] : List Value).reverse ++ Value.ref 0 :: ([] : List Value)).map (am_v s.heap.size))) rfl ?_
  refine lc_virt (ci := 7) hx hb hml hown hts hKs hl.1 hH hS hE1 dl_137 (am_qkb_ok (show am_qkb sLaw sX_encode 4 45 = true by decide +kernel)) rfl (am_at_in (i := 280) (by decide +kernel)) (am_at_in (i := 279) (by decide +kernel)) (am_at_in (i := 281) (by decide +kernel)) rfl (Nat.le_of_ble_eq_true rfl) rfl rfl (Nat.le_refl _) (Nat.le_refl _) (fun H locs hH hS => ?_)
  refine W.eq (g2 := F0 m 140 ls [Value.int r]) rfl ?_
  refine lv_aload_n hx hb dl_140 rfl (lv_at hl 2 rfl) ?_
  refine lv_aload_n hx hb dl_141 rfl (lv_at hl 0 rfl) ?_
  refine lv_iload_n hx hb dl_142 rfl (lv_at hl 3 rfl) ?_
  refine lv_iconst (v := 1) hx hb dl_143 (by decide) ?_
  refine lv_iadd hx hb dl_144 ?_
  refine va_sld hx hb hX hbl hbA hS h1 dl_145 ?_
  refine lv_aload_n hx hb dl_146 rfl (lv_at hl 0 rfl) ?_
  refine lv_iload_n hx hb dl_147 rfl (lv_at hl 3 rfl) ?_
  refine lv_iconst (v := 2) hx hb dl_148 (by decide) ?_
  refine lv_iadd hx hb dl_149 ?_
  refine va_sld hx hb hX hbl hbA hS h2 dl_150 ?_
  refine lv_aload_n hx hb dl_151 rfl (lv_at hl 0 rfl) ?_
  refine lv_iload_n hx hb dl_152 rfl (lv_at hl 3 rfl) ?_
  refine lv_iconst (v := 3) hx hb dl_153 (by decide) ?_
  refine lv_iadd hx hb dl_154 ?_
  refine va_sld hx hb hX hbl hbA hS h3 dl_155 ?_
  refine lv_aload_n hx hb dl_156 rfl (lv_at hl 0 rfl) ?_
  refine lv_iload_n hx hb dl_157 rfl (lv_at hl 3 rfl) ?_
  refine lv_iconst (v := 4) hx hb dl_158 (by decide) ?_
  refine lv_iadd hx hb dl_159 ?_
  refine va_sld hx hb hX hbl hbA hS h4 dl_160 ?_
  refine W.eq (g2 := F0 m 161 ls ((([Value.int (lA xs x 1), Value.int (lA xs x 2), Value.int (lA xs x 3), Value.int (lA xs x 4)] : List Value).reverse ++ Value.ref 30 :: [Value.int r]).map (am_v s.heap.size))) rfl ?_
  refine lc_virt (ci := 8) hx hb hml hown hts hKs hl.1 hH hS hE2 dl_161 (am_qkb_ok (show am_qkb sLaw sZ_encode 4 55 = true by decide +kernel)) rfl (am_at_in (i := 841) (by decide +kernel)) (am_at_in (i := 840) (by decide +kernel)) (am_at_in (i := 842) (by decide +kernel)) hc2 (Nat.le_of_ble_eq_true rfl) rfl rfl (Nat.le_refl _) (Nat.le_refl _) (fun H locs hH hS => ?_)
  refine W.eq (g2 := F0 m 164 ls [Value.int r, Value.int r]) rfl ?_
  refine lv_icmp_eq (tgt := 587) hx hb dl_164 (by decide) (fun _ => ?_) (fun hz => absurd rfl hz)
  exact kk H locs hH hS
set_option maxHeartbeats 4000000 in
set_option maxRecDepth 100000 in
theorem lw_c1 (C0 : LC p s m args c b L xs D cI cZ) (hl : lv_has ls 4 [(0, .ref b), (1, .ref (s.heap.size + 0)), (2, .ref (s.heap.size + 30)), (3, .int x)]) (h1 : vp_in (x + 1) L) (hE1 : am_Ev sX_kind [.ref 0, .int (lA xs x 1)] (wX i a (wZ j cc)) (some (.int r)) W1) (hc2 : am_ls W1 30 = some (.inr (8, fs))) (hE2 : am_Ev sZ_kind [.ref 30, .int (lA xs x 1)] W1 (some (.int r)) W2) (hH : am_H D cI cZ s.heap.size (wX i a (wZ j cc)) H) (hS : va_S (fun q => s.heap.size ≤ q) s.heap H locs) (kk : ∀ (H1 : Heap) (locs1 : List Loc), am_H D cI cZ s.heap.size W2 H1 → va_S (fun q => s.heap.size ≤ q) s.heap H1 locs1 → W p l e room_1 s m args below meth c H1 locs1 52 1972 Q (F0 m 587 ls [])) : W p l e room_1 s m args below meth c H locs 52 1972 Q (F0 m 169 ls []) := by
  obtain ⟨hx, hb, hml, hown, hts, hKs, hX, hbl⟩ := C0
  have hbA : ¬ (fun q : Nat => s.heap.size ≤ q) b := Nat.not_le.mpr hbl
  refine lv_aload_n hx hb dl_169 rfl (lv_at hl 1 rfl) ?_
  refine lv_aload_n hx hb dl_170 rfl (lv_at hl 0 rfl) ?_
  refine lv_iload_n hx hb dl_171 rfl (lv_at hl 3 rfl) ?_
  refine lv_iconst (v := 1) hx hb dl_172 (by decide) ?_
  refine lv_iadd hx hb dl_173 ?_
  refine va_sld hx hb hX hbl hbA hS h1 dl_174 ?_
  refine W.eq (g2 := F0 m 175 ls ((([Value.int (lA xs x 1)] : List Value).reverse ++ Value.ref 0 :: ([] : List Value)).map (am_v s.heap.size))) rfl ?_
  refine lc_virt (ci := 7) hx hb hml hown hts hKs hl.1 hH hS hE1 dl_175 (am_qkb_ok (show am_qkb sLaw sX_kind 1 45 = true by decide +kernel)) rfl (am_at_in (i := 300) (by decide +kernel)) (am_at_in (i := 299) (by decide +kernel)) (am_at_in (i := 301) (by decide +kernel)) rfl (Nat.le_of_ble_eq_true rfl) rfl rfl (Nat.le_refl _) (Nat.le_refl _) (fun H locs hH hS => ?_)
  refine W.eq (g2 := F0 m 178 ls [Value.int r]) rfl ?_
  refine lv_aload_n hx hb dl_178 rfl (lv_at hl 2 rfl) ?_
  refine lv_aload_n hx hb dl_179 rfl (lv_at hl 0 rfl) ?_
  refine lv_iload_n hx hb dl_180 rfl (lv_at hl 3 rfl) ?_
  refine lv_iconst (v := 1) hx hb dl_181 (by decide) ?_
  refine lv_iadd hx hb dl_182 ?_
  refine va_sld hx hb hX hbl hbA hS h1 dl_183 ?_
  refine W.eq (g2 := F0 m 184 ls ((([Value.int (lA xs x 1)] : List Value).reverse ++ Value.ref 30 :: [Value.int r]).map (am_v s.heap.size))) rfl ?_
  refine lc_virt (ci := 8) hx hb hml hown hts hKs hl.1 hH hS hE2 dl_184 (am_qkb_ok (show am_qkb sLaw sZ_kind 1 55 = true by decide +kernel)) rfl (am_at_in (i := 873) (by decide +kernel)) (am_at_in (i := 872) (by decide +kernel)) (am_at_in (i := 874) (by decide +kernel)) hc2 (Nat.le_of_ble_eq_true rfl) rfl rfl (Nat.le_refl _) (Nat.le_refl _) (fun H locs hH hS => ?_)
  refine W.eq (g2 := F0 m 187 ls [Value.int r, Value.int r]) rfl ?_
  refine lv_icmp_eq (tgt := 587) hx hb dl_187 (by decide) (fun _ => ?_) (fun hz => absurd rfl hz)
  exact kk H locs hH hS
set_option maxHeartbeats 4000000 in
set_option maxRecDepth 100000 in
theorem lw_c2 (C0 : LC p s m args c b L xs D cI cZ) (hl : lv_has ls 4 [(0, .ref b), (1, .ref (s.heap.size + 0)), (2, .ref (s.heap.size + 30)), (3, .int x)]) (h1 : vp_in (x + 1) L) (h2 : vp_in (x + 2) L) (h3 : vp_in (x + 3) L) (h4 : vp_in (x + 4) L) (hE1 : am_Ev sX_line [.ref 0, .int (lA xs x 1), .int (lA xs x 2), .int (lA xs x 3), .int (lA xs x 4)] (wX i a (wZ j cc)) (some (.int r)) W1) (hc2 : am_ls W1 30 = some (.inr (8, fs))) (hE2 : am_Ev sZ_line [.ref 30, .int (lA xs x 1), .int (lA xs x 2), .int (lA xs x 3), .int (lA xs x 4)] W1 (some (.int r)) W2) (hH : am_H D cI cZ s.heap.size (wX i a (wZ j cc)) H) (hS : va_S (fun q => s.heap.size ≤ q) s.heap H locs) (kk : ∀ (H1 : Heap) (locs1 : List Loc), am_H D cI cZ s.heap.size W2 H1 → va_S (fun q => s.heap.size ≤ q) s.heap H1 locs1 → W p l e room_1 s m args below meth c H1 locs1 52 1972 Q (F0 m 587 ls [])) : W p l e room_1 s m args below meth c H locs 52 1972 Q (F0 m 192 ls []) := by
  obtain ⟨hx, hb, hml, hown, hts, hKs, hX, hbl⟩ := C0
  have hbA : ¬ (fun q : Nat => s.heap.size ≤ q) b := Nat.not_le.mpr hbl
  refine lv_aload_n hx hb dl_192 rfl (lv_at hl 1 rfl) ?_
  refine lv_aload_n hx hb dl_193 rfl (lv_at hl 0 rfl) ?_
  refine lv_iload_n hx hb dl_194 rfl (lv_at hl 3 rfl) ?_
  refine lv_iconst (v := 1) hx hb dl_195 (by decide) ?_
  refine lv_iadd hx hb dl_196 ?_
  refine va_sld hx hb hX hbl hbA hS h1 dl_197 ?_
  refine lv_aload_n hx hb dl_198 rfl (lv_at hl 0 rfl) ?_
  refine lv_iload_n hx hb dl_199 rfl (lv_at hl 3 rfl) ?_
  refine lv_iconst (v := 2) hx hb dl_200 (by decide) ?_
  refine lv_iadd hx hb dl_201 ?_
  refine va_sld hx hb hX hbl hbA hS h2 dl_202 ?_
  refine lv_aload_n hx hb dl_203 rfl (lv_at hl 0 rfl) ?_
  refine lv_iload_n hx hb dl_204 rfl (lv_at hl 3 rfl) ?_
  refine lv_iconst (v := 3) hx hb dl_205 (by decide) ?_
  refine lv_iadd hx hb dl_206 ?_
  refine va_sld hx hb hX hbl hbA hS h3 dl_207 ?_
  refine lv_aload_n hx hb dl_208 rfl (lv_at hl 0 rfl) ?_
  refine lv_iload_n hx hb dl_209 rfl (lv_at hl 3 rfl) ?_
  refine lv_iconst (v := 4) hx hb dl_210 (by decide) ?_
  refine lv_iadd hx hb dl_211 ?_
  refine va_sld hx hb hX hbl hbA hS h4 dl_212 ?_
  refine W.eq (g2 := F0 m 213 ls ((([Value.int (lA xs x 1), Value.int (lA xs x 2), Value.int (lA xs x 3), Value.int (lA xs x 4)] : List Value).reverse ++ Value.ref 0 :: ([] : List Value)).map (am_v s.heap.size))) rfl ?_
  refine lc_virt (ci := 7) hx hb hml hown hts hKs hl.1 hH hS hE1 dl_213 (am_qkb_ok (show am_qkb sLaw sX_line 4 45 = true by decide +kernel)) rfl (am_at_in (i := 322) (by decide +kernel)) (am_at_in (i := 321) (by decide +kernel)) (am_at_in (i := 323) (by decide +kernel)) rfl (Nat.le_of_ble_eq_true rfl) rfl rfl (Nat.le_refl _) (Nat.le_refl _) (fun H locs hH hS => ?_)
  refine W.eq (g2 := F0 m 216 ls [Value.int r]) rfl ?_
  refine lv_aload_n hx hb dl_216 rfl (lv_at hl 2 rfl) ?_
  refine lv_aload_n hx hb dl_217 rfl (lv_at hl 0 rfl) ?_
  refine lv_iload_n hx hb dl_218 rfl (lv_at hl 3 rfl) ?_
  refine lv_iconst (v := 1) hx hb dl_219 (by decide) ?_
  refine lv_iadd hx hb dl_220 ?_
  refine va_sld hx hb hX hbl hbA hS h1 dl_221 ?_
  refine lv_aload_n hx hb dl_222 rfl (lv_at hl 0 rfl) ?_
  refine lv_iload_n hx hb dl_223 rfl (lv_at hl 3 rfl) ?_
  refine lv_iconst (v := 2) hx hb dl_224 (by decide) ?_
  refine lv_iadd hx hb dl_225 ?_
  refine va_sld hx hb hX hbl hbA hS h2 dl_226 ?_
  refine lv_aload_n hx hb dl_227 rfl (lv_at hl 0 rfl) ?_
  refine lv_iload_n hx hb dl_228 rfl (lv_at hl 3 rfl) ?_
  refine lv_iconst (v := 3) hx hb dl_229 (by decide) ?_
  refine lv_iadd hx hb dl_230 ?_
  refine va_sld hx hb hX hbl hbA hS h3 dl_231 ?_
  refine lv_aload_n hx hb dl_232 rfl (lv_at hl 0 rfl) ?_
  refine lv_iload_n hx hb dl_233 rfl (lv_at hl 3 rfl) ?_
  refine lv_iconst (v := 4) hx hb dl_234 (by decide) ?_
  refine lv_iadd hx hb dl_235 ?_
  refine va_sld hx hb hX hbl hbA hS h4 dl_236 ?_
  refine W.eq (g2 := F0 m 237 ls ((([Value.int (lA xs x 1), Value.int (lA xs x 2), Value.int (lA xs x 3), Value.int (lA xs x 4)] : List Value).reverse ++ Value.ref 30 :: [Value.int r]).map (am_v s.heap.size))) rfl ?_
  refine lc_virt (ci := 8) hx hb hml hown hts hKs hl.1 hH hS hE2 dl_237 (am_qkb_ok (show am_qkb sLaw sZ_line 4 55 = true by decide +kernel)) rfl (am_at_in (i := 891) (by decide +kernel)) (am_at_in (i := 890) (by decide +kernel)) (am_at_in (i := 892) (by decide +kernel)) hc2 (Nat.le_of_ble_eq_true rfl) rfl rfl (Nat.le_refl _) (Nat.le_refl _) (fun H locs hH hS => ?_)
  refine W.eq (g2 := F0 m 240 ls [Value.int r, Value.int r]) rfl ?_
  refine lv_icmp_eq (tgt := 587) hx hb dl_240 (by decide) (fun _ => ?_) (fun hz => absurd rfl hz)
  exact kk H locs hH hS
set_option maxHeartbeats 4000000 in
set_option maxRecDepth 100000 in
theorem lw_c3 (C0 : LC p s m args c b L xs D cI cZ) (hl : lv_has ls 4 [(0, .ref b), (1, .ref (s.heap.size + 0)), (2, .ref (s.heap.size + 30)), (3, .int x)]) (hE1 : am_Ev sX_clear [.ref 0] (wX i a (wZ j cc)) (some (.int r)) W1) (hc2 : am_ls W1 30 = some (.inr (8, fs))) (hE2 : am_Ev sZ_clear [.ref 30] W1 (some (.int r)) W2) (hH : am_H D cI cZ s.heap.size (wX i a (wZ j cc)) H) (hS : va_S (fun q => s.heap.size ≤ q) s.heap H locs) (kk : ∀ (H1 : Heap) (locs1 : List Loc), am_H D cI cZ s.heap.size W2 H1 → va_S (fun q => s.heap.size ≤ q) s.heap H1 locs1 → W p l e room_1 s m args below meth c H1 locs1 52 1972 Q (F0 m 587 ls [])) : W p l e room_1 s m args below meth c H locs 52 1972 Q (F0 m 245 ls []) := by
  obtain ⟨hx, hb, hml, hown, hts, hKs, hX, hbl⟩ := C0
  have hbA : ¬ (fun q : Nat => s.heap.size ≤ q) b := Nat.not_le.mpr hbl
  refine lv_aload_n hx hb dl_245 rfl (lv_at hl 1 rfl) ?_
  refine W.eq (g2 := F0 m 246 ls ((([] : List Value).reverse ++ Value.ref 0 :: ([] : List Value)).map (am_v s.heap.size))) rfl ?_
  refine lc_virt (ci := 7) hx hb hml hown hts hKs hl.1 hH hS hE1 dl_246 (am_qkb_ok (show am_qkb sLaw sX_clear 0 45 = true by decide +kernel)) rfl (am_at_in (i := 344) (by decide +kernel)) (am_at_in (i := 343) (by decide +kernel)) (am_at_in (i := 345) (by decide +kernel)) rfl (Nat.le_of_ble_eq_true rfl) rfl rfl (Nat.le_refl _) (Nat.le_refl _) (fun H locs hH hS => ?_)
  refine W.eq (g2 := F0 m 249 ls [Value.int r]) rfl ?_
  refine lv_aload_n hx hb dl_249 rfl (lv_at hl 2 rfl) ?_
  refine W.eq (g2 := F0 m 250 ls ((([] : List Value).reverse ++ Value.ref 30 :: [Value.int r]).map (am_v s.heap.size))) rfl ?_
  refine lc_virt (ci := 8) hx hb hml hown hts hKs hl.1 hH hS hE2 dl_250 (am_qkb_ok (show am_qkb sLaw sZ_clear 0 55 = true by decide +kernel)) rfl (am_at_in (i := 904) (by decide +kernel)) (am_at_in (i := 903) (by decide +kernel)) (am_at_in (i := 905) (by decide +kernel)) hc2 (Nat.le_of_ble_eq_true rfl) rfl rfl (Nat.le_refl _) (Nat.le_refl _) (fun H locs hH hS => ?_)
  refine W.eq (g2 := F0 m 253 ls [Value.int r, Value.int r]) rfl ?_
  refine lv_icmp_eq (tgt := 587) hx hb dl_253 (by decide) (fun _ => ?_) (fun hz => absurd rfl hz)
  exact kk H locs hH hS
set_option maxHeartbeats 4000000 in
set_option maxRecDepth 100000 in
theorem lw_c4 (C0 : LC p s m args c b L xs D cI cZ) (hl : lv_has ls 4 [(0, .ref b), (1, .ref (s.heap.size + 0)), (2, .ref (s.heap.size + 30)), (3, .int x)]) (hE1 : am_Ev sX_build [.ref 0] (wX i a (wZ j cc)) (some (.int r)) W1) (hc2 : am_ls W1 30 = some (.inr (8, fs))) (hE2 : am_Ev sZ_build [.ref 30] W1 (some (.int r)) W2) (hH : am_H D cI cZ s.heap.size (wX i a (wZ j cc)) H) (hS : va_S (fun q => s.heap.size ≤ q) s.heap H locs) (kk : ∀ (H1 : Heap) (locs1 : List Loc), am_H D cI cZ s.heap.size W2 H1 → va_S (fun q => s.heap.size ≤ q) s.heap H1 locs1 → W p l e room_1 s m args below meth c H1 locs1 52 1972 Q (F0 m 587 ls [])) : W p l e room_1 s m args below meth c H locs 52 1972 Q (F0 m 258 ls []) := by
  obtain ⟨hx, hb, hml, hown, hts, hKs, hX, hbl⟩ := C0
  have hbA : ¬ (fun q : Nat => s.heap.size ≤ q) b := Nat.not_le.mpr hbl
  refine lv_aload_n hx hb dl_258 rfl (lv_at hl 1 rfl) ?_
  refine W.eq (g2 := F0 m 259 ls ((([] : List Value).reverse ++ Value.ref 0 :: ([] : List Value)).map (am_v s.heap.size))) rfl ?_
  refine lc_virt (ci := 7) hx hb hml hown hts hKs hl.1 hH hS hE1 dl_259 (am_qkb_ok (show am_qkb sLaw sX_build 0 45 = true by decide +kernel)) rfl (am_at_in (i := 348) (by decide +kernel)) (am_at_in (i := 347) (by decide +kernel)) (am_at_in (i := 349) (by decide +kernel)) rfl (Nat.le_of_ble_eq_true rfl) rfl rfl (Nat.le_refl _) (Nat.le_refl _) (fun H locs hH hS => ?_)
  refine W.eq (g2 := F0 m 262 ls [Value.int r]) rfl ?_
  refine lv_aload_n hx hb dl_262 rfl (lv_at hl 2 rfl) ?_
  refine W.eq (g2 := F0 m 263 ls ((([] : List Value).reverse ++ Value.ref 30 :: [Value.int r]).map (am_v s.heap.size))) rfl ?_
  refine lc_virt (ci := 8) hx hb hml hown hts hKs hl.1 hH hS hE2 dl_263 (am_qkb_ok (show am_qkb sLaw sZ_build 0 55 = true by decide +kernel)) rfl (am_at_in (i := 908) (by decide +kernel)) (am_at_in (i := 907) (by decide +kernel)) (am_at_in (i := 909) (by decide +kernel)) hc2 (Nat.le_of_ble_eq_true rfl) rfl rfl (Nat.le_refl _) (Nat.le_refl _) (fun H locs hH hS => ?_)
  refine W.eq (g2 := F0 m 266 ls [Value.int r, Value.int r]) rfl ?_
  refine lv_icmp_eq (tgt := 587) hx hb dl_266 (by decide) (fun _ => ?_) (fun hz => absurd rfl hz)
  exact kk H locs hH hS
set_option maxHeartbeats 4000000 in
set_option maxRecDepth 100000 in
theorem lw_c5 (C0 : LC p s m args c b L xs D cI cZ) (hl : lv_has ls 4 [(0, .ref b), (1, .ref (s.heap.size + 0)), (2, .ref (s.heap.size + 30)), (3, .int x)]) (h1 : vp_in (x + 1) L) (hE1 : am_Ev sX_address [.ref 0, .int (lA xs x 1)] (wX i a (wZ j cc)) (some (.int r)) W1) (hc2 : am_ls W1 30 = some (.inr (8, fs))) (hE2 : am_Ev sZ_address [.ref 30, .int (lA xs x 1)] W1 (some (.int r)) W2) (hH : am_H D cI cZ s.heap.size (wX i a (wZ j cc)) H) (hS : va_S (fun q => s.heap.size ≤ q) s.heap H locs) (kk : ∀ (H1 : Heap) (locs1 : List Loc), am_H D cI cZ s.heap.size W2 H1 → va_S (fun q => s.heap.size ≤ q) s.heap H1 locs1 → W p l e room_1 s m args below meth c H1 locs1 52 1972 Q (F0 m 587 ls [])) : W p l e room_1 s m args below meth c H locs 52 1972 Q (F0 m 271 ls []) := by
  obtain ⟨hx, hb, hml, hown, hts, hKs, hX, hbl⟩ := C0
  have hbA : ¬ (fun q : Nat => s.heap.size ≤ q) b := Nat.not_le.mpr hbl
  refine lv_aload_n hx hb dl_271 rfl (lv_at hl 1 rfl) ?_
  refine lv_aload_n hx hb dl_272 rfl (lv_at hl 0 rfl) ?_
  refine lv_iload_n hx hb dl_273 rfl (lv_at hl 3 rfl) ?_
  refine lv_iconst (v := 1) hx hb dl_274 (by decide) ?_
  refine lv_iadd hx hb dl_275 ?_
  refine va_sld hx hb hX hbl hbA hS h1 dl_276 ?_
  refine W.eq (g2 := F0 m 277 ls ((([Value.int (lA xs x 1)] : List Value).reverse ++ Value.ref 0 :: ([] : List Value)).map (am_v s.heap.size))) rfl ?_
  refine lc_virt (ci := 7) hx hb hml hown hts hKs hl.1 hH hS hE1 dl_277 (am_qkb_ok (show am_qkb sLaw sX_address 1 45 = true by decide +kernel)) rfl (am_at_in (i := 462) (by decide +kernel)) (am_at_in (i := 461) (by decide +kernel)) (am_at_in (i := 463) (by decide +kernel)) rfl (Nat.le_of_ble_eq_true rfl) rfl rfl (Nat.le_refl _) (Nat.le_refl _) (fun H locs hH hS => ?_)
  refine W.eq (g2 := F0 m 280 ls [Value.int r]) rfl ?_
  refine lv_aload_n hx hb dl_280 rfl (lv_at hl 2 rfl) ?_
  refine lv_aload_n hx hb dl_281 rfl (lv_at hl 0 rfl) ?_
  refine lv_iload_n hx hb dl_282 rfl (lv_at hl 3 rfl) ?_
  refine lv_iconst (v := 1) hx hb dl_283 (by decide) ?_
  refine lv_iadd hx hb dl_284 ?_
  refine va_sld hx hb hX hbl hbA hS h1 dl_285 ?_
  refine W.eq (g2 := F0 m 286 ls ((([Value.int (lA xs x 1)] : List Value).reverse ++ Value.ref 30 :: [Value.int r]).map (am_v s.heap.size))) rfl ?_
  refine lc_virt (ci := 8) hx hb hml hown hts hKs hl.1 hH hS hE2 dl_286 (am_qkb_ok (show am_qkb sLaw sZ_address 1 55 = true by decide +kernel)) rfl (am_at_in (i := 947) (by decide +kernel)) (am_at_in (i := 946) (by decide +kernel)) (am_at_in (i := 948) (by decide +kernel)) hc2 (Nat.le_of_ble_eq_true rfl) rfl rfl (Nat.le_refl _) (Nat.le_refl _) (fun H locs hH hS => ?_)
  refine W.eq (g2 := F0 m 289 ls [Value.int r, Value.int r]) rfl ?_
  refine lv_icmp_eq (tgt := 587) hx hb dl_289 (by decide) (fun _ => ?_) (fun hz => absurd rfl hz)
  exact kk H locs hH hS
set_option maxHeartbeats 4000000 in
set_option maxRecDepth 100000 in
theorem lw_c6 (C0 : LC p s m args c b L xs D cI cZ) (hl : lv_has ls 4 [(0, .ref b), (1, .ref (s.heap.size + 0)), (2, .ref (s.heap.size + 30)), (3, .int x)]) (h1 : vp_in (x + 1) L) (hE1 : am_Ev sX_length [.ref 0, .int (lA xs x 1)] (wX i a (wZ j cc)) (some (.int r)) W1) (hc2 : am_ls W1 30 = some (.inr (8, fs))) (hE2 : am_Ev sZ_length [.ref 30, .int (lA xs x 1)] W1 (some (.int r)) W2) (hH : am_H D cI cZ s.heap.size (wX i a (wZ j cc)) H) (hS : va_S (fun q => s.heap.size ≤ q) s.heap H locs) (kk : ∀ (H1 : Heap) (locs1 : List Loc), am_H D cI cZ s.heap.size W2 H1 → va_S (fun q => s.heap.size ≤ q) s.heap H1 locs1 → W p l e room_1 s m args below meth c H1 locs1 52 1972 Q (F0 m 587 ls [])) : W p l e room_1 s m args below meth c H locs 52 1972 Q (F0 m 294 ls []) := by
  obtain ⟨hx, hb, hml, hown, hts, hKs, hX, hbl⟩ := C0
  have hbA : ¬ (fun q : Nat => s.heap.size ≤ q) b := Nat.not_le.mpr hbl
  refine lv_aload_n hx hb dl_294 rfl (lv_at hl 1 rfl) ?_
  refine lv_aload_n hx hb dl_295 rfl (lv_at hl 0 rfl) ?_
  refine lv_iload_n hx hb dl_296 rfl (lv_at hl 3 rfl) ?_
  refine lv_iconst (v := 1) hx hb dl_297 (by decide) ?_
  refine lv_iadd hx hb dl_298 ?_
  refine va_sld hx hb hX hbl hbA hS h1 dl_299 ?_
  refine W.eq (g2 := F0 m 300 ls ((([Value.int (lA xs x 1)] : List Value).reverse ++ Value.ref 0 :: ([] : List Value)).map (am_v s.heap.size))) rfl ?_
  refine lc_virt (ci := 7) hx hb hml hown hts hKs hl.1 hH hS hE1 dl_300 (am_qkb_ok (show am_qkb sLaw sX_length 1 45 = true by decide +kernel)) rfl (am_at_in (i := 467) (by decide +kernel)) (am_at_in (i := 466) (by decide +kernel)) (am_at_in (i := 468) (by decide +kernel)) rfl (Nat.le_of_ble_eq_true rfl) rfl rfl (Nat.le_refl _) (Nat.le_refl _) (fun H locs hH hS => ?_)
  refine W.eq (g2 := F0 m 303 ls [Value.int r]) rfl ?_
  refine lv_aload_n hx hb dl_303 rfl (lv_at hl 2 rfl) ?_
  refine lv_aload_n hx hb dl_304 rfl (lv_at hl 0 rfl) ?_
  refine lv_iload_n hx hb dl_305 rfl (lv_at hl 3 rfl) ?_
  refine lv_iconst (v := 1) hx hb dl_306 (by decide) ?_
  refine lv_iadd hx hb dl_307 ?_
  refine va_sld hx hb hX hbl hbA hS h1 dl_308 ?_
  refine W.eq (g2 := F0 m 309 ls ((([Value.int (lA xs x 1)] : List Value).reverse ++ Value.ref 30 :: [Value.int r]).map (am_v s.heap.size))) rfl ?_
  refine lc_virt (ci := 8) hx hb hml hown hts hKs hl.1 hH hS hE2 dl_309 (am_qkb_ok (show am_qkb sLaw sZ_length 1 55 = true by decide +kernel)) rfl (am_at_in (i := 951) (by decide +kernel)) (am_at_in (i := 950) (by decide +kernel)) (am_at_in (i := 952) (by decide +kernel)) hc2 (Nat.le_of_ble_eq_true rfl) rfl rfl (Nat.le_refl _) (Nat.le_refl _) (fun H locs hH hS => ?_)
  refine W.eq (g2 := F0 m 312 ls [Value.int r, Value.int r]) rfl ?_
  refine lv_icmp_eq (tgt := 587) hx hb dl_312 (by decide) (fun _ => ?_) (fun hz => absurd rfl hz)
  exact kk H locs hH hS
set_option maxHeartbeats 4000000 in
set_option maxRecDepth 100000 in
theorem lw_c7 (C0 : LC p s m args c b L xs D cI cZ) (hl : lv_has ls 4 [(0, .ref b), (1, .ref (s.heap.size + 0)), (2, .ref (s.heap.size + 30)), (3, .int x)]) (h1 : vp_in (x + 1) L) (h2 : vp_in (x + 2) L) (hE1 : am_Ev sX_poke [.ref 0, .int (lA xs x 1), .int (lA xs x 2)] (wX i a (wZ j cc)) (some (.int r)) W1) (hc2 : am_ls W1 30 = some (.inr (8, fs))) (hE2 : am_Ev sZ_poke [.ref 30, .int (lA xs x 1), .int (lA xs x 2)] W1 (some (.int r)) W2) (hH : am_H D cI cZ s.heap.size (wX i a (wZ j cc)) H) (hS : va_S (fun q => s.heap.size ≤ q) s.heap H locs) (kk : ∀ (H1 : Heap) (locs1 : List Loc), am_H D cI cZ s.heap.size W2 H1 → va_S (fun q => s.heap.size ≤ q) s.heap H1 locs1 → W p l e room_1 s m args below meth c H1 locs1 52 1972 Q (F0 m 587 ls [])) : W p l e room_1 s m args below meth c H locs 52 1972 Q (F0 m 317 ls []) := by
  obtain ⟨hx, hb, hml, hown, hts, hKs, hX, hbl⟩ := C0
  have hbA : ¬ (fun q : Nat => s.heap.size ≤ q) b := Nat.not_le.mpr hbl
  refine lv_aload_n hx hb dl_317 rfl (lv_at hl 1 rfl) ?_
  refine lv_aload_n hx hb dl_318 rfl (lv_at hl 0 rfl) ?_
  refine lv_iload_n hx hb dl_319 rfl (lv_at hl 3 rfl) ?_
  refine lv_iconst (v := 1) hx hb dl_320 (by decide) ?_
  refine lv_iadd hx hb dl_321 ?_
  refine va_sld hx hb hX hbl hbA hS h1 dl_322 ?_
  refine lv_aload_n hx hb dl_323 rfl (lv_at hl 0 rfl) ?_
  refine lv_iload_n hx hb dl_324 rfl (lv_at hl 3 rfl) ?_
  refine lv_iconst (v := 2) hx hb dl_325 (by decide) ?_
  refine lv_iadd hx hb dl_326 ?_
  refine va_sld hx hb hX hbl hbA hS h2 dl_327 ?_
  refine W.eq (g2 := F0 m 328 ls ((([Value.int (lA xs x 1), Value.int (lA xs x 2)] : List Value).reverse ++ Value.ref 0 :: ([] : List Value)).map (am_v s.heap.size))) rfl ?_
  refine lc_virt (ci := 7) hx hb hml hown hts hKs hl.1 hH hS hE1 dl_328 (am_qkb_ok (show am_qkb sLaw sX_poke 2 45 = true by decide +kernel)) rfl (am_at_in (i := 472) (by decide +kernel)) (am_at_in (i := 471) (by decide +kernel)) (am_at_in (i := 473) (by decide +kernel)) rfl (Nat.le_of_ble_eq_true rfl) rfl rfl (Nat.le_refl _) (Nat.le_refl _) (fun H locs hH hS => ?_)
  refine W.eq (g2 := F0 m 331 ls [Value.int r]) rfl ?_
  refine lv_aload_n hx hb dl_331 rfl (lv_at hl 2 rfl) ?_
  refine lv_aload_n hx hb dl_332 rfl (lv_at hl 0 rfl) ?_
  refine lv_iload_n hx hb dl_333 rfl (lv_at hl 3 rfl) ?_
  refine lv_iconst (v := 1) hx hb dl_334 (by decide) ?_
  refine lv_iadd hx hb dl_335 ?_
  refine va_sld hx hb hX hbl hbA hS h1 dl_336 ?_
  refine lv_aload_n hx hb dl_337 rfl (lv_at hl 0 rfl) ?_
  refine lv_iload_n hx hb dl_338 rfl (lv_at hl 3 rfl) ?_
  refine lv_iconst (v := 2) hx hb dl_339 (by decide) ?_
  refine lv_iadd hx hb dl_340 ?_
  refine va_sld hx hb hX hbl hbA hS h2 dl_341 ?_
  refine W.eq (g2 := F0 m 342 ls ((([Value.int (lA xs x 1), Value.int (lA xs x 2)] : List Value).reverse ++ Value.ref 30 :: [Value.int r]).map (am_v s.heap.size))) rfl ?_
  refine lc_virt (ci := 8) hx hb hml hown hts hKs hl.1 hH hS hE2 dl_342 (am_qkb_ok (show am_qkb sLaw sZ_poke 2 55 = true by decide +kernel)) rfl (am_at_in (i := 955) (by decide +kernel)) (am_at_in (i := 954) (by decide +kernel)) (am_at_in (i := 956) (by decide +kernel)) hc2 (Nat.le_of_ble_eq_true rfl) rfl rfl (Nat.le_refl _) (Nat.le_refl _) (fun H locs hH hS => ?_)
  refine W.eq (g2 := F0 m 345 ls [Value.int r, Value.int r]) rfl ?_
  refine lv_icmp_eq (tgt := 587) hx hb dl_345 (by decide) (fun _ => ?_) (fun hz => absurd rfl hz)
  exact kk H locs hH hS
set_option maxHeartbeats 4000000 in
set_option maxRecDepth 100000 in
theorem lw_c8 (C0 : LC p s m args c b L xs D cI cZ) (hl : lv_has ls 4 [(0, .ref b), (1, .ref (s.heap.size + 0)), (2, .ref (s.heap.size + 30)), (3, .int x)]) (h1 : vp_in (x + 1) L) (hE1 : am_Ev sX_peek [.ref 0, .int (lA xs x 1)] (wX i a (wZ j cc)) (some (.int r)) W1) (hc2 : am_ls W1 30 = some (.inr (8, fs))) (hE2 : am_Ev sZ_peek [.ref 30, .int (lA xs x 1)] W1 (some (.int r)) W2) (hH : am_H D cI cZ s.heap.size (wX i a (wZ j cc)) H) (hS : va_S (fun q => s.heap.size ≤ q) s.heap H locs) (kk : ∀ (H1 : Heap) (locs1 : List Loc), am_H D cI cZ s.heap.size W2 H1 → va_S (fun q => s.heap.size ≤ q) s.heap H1 locs1 → W p l e room_1 s m args below meth c H1 locs1 52 1972 Q (F0 m 587 ls [])) : W p l e room_1 s m args below meth c H locs 52 1972 Q (F0 m 350 ls []) := by
  obtain ⟨hx, hb, hml, hown, hts, hKs, hX, hbl⟩ := C0
  have hbA : ¬ (fun q : Nat => s.heap.size ≤ q) b := Nat.not_le.mpr hbl
  refine lv_aload_n hx hb dl_350 rfl (lv_at hl 1 rfl) ?_
  refine lv_aload_n hx hb dl_351 rfl (lv_at hl 0 rfl) ?_
  refine lv_iload_n hx hb dl_352 rfl (lv_at hl 3 rfl) ?_
  refine lv_iconst (v := 1) hx hb dl_353 (by decide) ?_
  refine lv_iadd hx hb dl_354 ?_
  refine va_sld hx hb hX hbl hbA hS h1 dl_355 ?_
  refine W.eq (g2 := F0 m 356 ls ((([Value.int (lA xs x 1)] : List Value).reverse ++ Value.ref 0 :: ([] : List Value)).map (am_v s.heap.size))) rfl ?_
  refine lc_virt (ci := 7) hx hb hml hown hts hKs hl.1 hH hS hE1 dl_356 (am_qkb_ok (show am_qkb sLaw sX_peek 1 45 = true by decide +kernel)) rfl (am_at_in (i := 477) (by decide +kernel)) (am_at_in (i := 476) (by decide +kernel)) (am_at_in (i := 478) (by decide +kernel)) rfl (Nat.le_of_ble_eq_true rfl) rfl rfl (Nat.le_refl _) (Nat.le_refl _) (fun H locs hH hS => ?_)
  refine W.eq (g2 := F0 m 359 ls [Value.int r]) rfl ?_
  refine lv_aload_n hx hb dl_359 rfl (lv_at hl 2 rfl) ?_
  refine lv_aload_n hx hb dl_360 rfl (lv_at hl 0 rfl) ?_
  refine lv_iload_n hx hb dl_361 rfl (lv_at hl 3 rfl) ?_
  refine lv_iconst (v := 1) hx hb dl_362 (by decide) ?_
  refine lv_iadd hx hb dl_363 ?_
  refine va_sld hx hb hX hbl hbA hS h1 dl_364 ?_
  refine W.eq (g2 := F0 m 365 ls ((([Value.int (lA xs x 1)] : List Value).reverse ++ Value.ref 30 :: [Value.int r]).map (am_v s.heap.size))) rfl ?_
  refine lc_virt (ci := 8) hx hb hml hown hts hKs hl.1 hH hS hE2 dl_365 (am_qkb_ok (show am_qkb sLaw sZ_peek 1 55 = true by decide +kernel)) rfl (am_at_in (i := 959) (by decide +kernel)) (am_at_in (i := 958) (by decide +kernel)) (am_at_in (i := 960) (by decide +kernel)) hc2 (Nat.le_of_ble_eq_true rfl) rfl rfl (Nat.le_refl _) (Nat.le_refl _) (fun H locs hH hS => ?_)
  refine W.eq (g2 := F0 m 368 ls [Value.int r, Value.int r]) rfl ?_
  refine lv_icmp_eq (tgt := 587) hx hb dl_368 (by decide) (fun _ => ?_) (fun hz => absurd rfl hz)
  exact kk H locs hH hS
set_option maxHeartbeats 4000000 in
set_option maxRecDepth 100000 in
theorem lw_c9 (C0 : LC p s m args c b L xs D cI cZ) (hl : lv_has ls 4 [(0, .ref b), (1, .ref (s.heap.size + 0)), (2, .ref (s.heap.size + 30)), (3, .int x)]) (hE1 : am_Ev sX_check [.ref 0] (wX i a (wZ j cc)) (some (.int r)) W1) (hc2 : am_ls W1 30 = some (.inr (8, fs))) (hE2 : am_Ev sZ_check [.ref 30] W1 (some (.int r)) W2) (hH : am_H D cI cZ s.heap.size (wX i a (wZ j cc)) H) (hS : va_S (fun q => s.heap.size ≤ q) s.heap H locs) (kk : ∀ (H1 : Heap) (locs1 : List Loc), am_H D cI cZ s.heap.size W2 H1 → va_S (fun q => s.heap.size ≤ q) s.heap H1 locs1 → W p l e room_1 s m args below meth c H1 locs1 52 1972 Q (F0 m 587 ls [])) : W p l e room_1 s m args below meth c H locs 52 1972 Q (F0 m 373 ls []) := by
  obtain ⟨hx, hb, hml, hown, hts, hKs, hX, hbl⟩ := C0
  have hbA : ¬ (fun q : Nat => s.heap.size ≤ q) b := Nat.not_le.mpr hbl
  refine lv_aload_n hx hb dl_373 rfl (lv_at hl 1 rfl) ?_
  refine W.eq (g2 := F0 m 374 ls ((([] : List Value).reverse ++ Value.ref 0 :: ([] : List Value)).map (am_v s.heap.size))) rfl ?_
  refine lc_virt (ci := 7) hx hb hml hown hts hKs hl.1 hH hS hE1 dl_374 (am_qkb_ok (show am_qkb sLaw sX_check 0 45 = true by decide +kernel)) rfl (am_at_in (i := 485) (by decide +kernel)) (am_at_in (i := 484) (by decide +kernel)) (am_at_in (i := 486) (by decide +kernel)) rfl (Nat.le_of_ble_eq_true rfl) rfl rfl (Nat.le_refl _) (Nat.le_refl _) (fun H locs hH hS => ?_)
  refine W.eq (g2 := F0 m 377 ls [Value.int r]) rfl ?_
  refine lv_aload_n hx hb dl_377 rfl (lv_at hl 2 rfl) ?_
  refine W.eq (g2 := F0 m 378 ls ((([] : List Value).reverse ++ Value.ref 30 :: [Value.int r]).map (am_v s.heap.size))) rfl ?_
  refine lc_virt (ci := 8) hx hb hml hown hts hKs hl.1 hH hS hE2 dl_378 (am_qkb_ok (show am_qkb sLaw sZ_check 0 55 = true by decide +kernel)) rfl (am_at_in (i := 963) (by decide +kernel)) (am_at_in (i := 962) (by decide +kernel)) (am_at_in (i := 964) (by decide +kernel)) hc2 (Nat.le_of_ble_eq_true rfl) rfl rfl (Nat.le_refl _) (Nat.le_refl _) (fun H locs hH hS => ?_)
  refine W.eq (g2 := F0 m 381 ls [Value.int r, Value.int r]) rfl ?_
  refine lv_icmp_eq (tgt := 587) hx hb dl_381 (by decide) (fun _ => ?_) (fun hz => absurd rfl hz)
  exact kk H locs hH hS
set_option maxHeartbeats 4000000 in
set_option maxRecDepth 100000 in
theorem lw_c10 (C0 : LC p s m args c b L xs D cI cZ) (hl : lv_has ls 4 [(0, .ref b), (1, .ref (s.heap.size + 0)), (2, .ref (s.heap.size + 30)), (3, .int x)]) (h1 : vp_in (x + 1) L) (hE1 : am_Ev sX_input [.ref 0, .int (lA xs x 1)] (wX i a (wZ j cc)) (some (.int r)) W1) (hc2 : am_ls W1 30 = some (.inr (8, fs))) (hE2 : am_Ev sZ_input [.ref 30, .int (lA xs x 1)] W1 (some (.int r)) W2) (hH : am_H D cI cZ s.heap.size (wX i a (wZ j cc)) H) (hS : va_S (fun q => s.heap.size ≤ q) s.heap H locs) (kk : ∀ (H1 : Heap) (locs1 : List Loc), am_H D cI cZ s.heap.size W2 H1 → va_S (fun q => s.heap.size ≤ q) s.heap H1 locs1 → W p l e room_1 s m args below meth c H1 locs1 52 1972 Q (F0 m 587 ls [])) : W p l e room_1 s m args below meth c H locs 52 1972 Q (F0 m 386 ls []) := by
  obtain ⟨hx, hb, hml, hown, hts, hKs, hX, hbl⟩ := C0
  have hbA : ¬ (fun q : Nat => s.heap.size ≤ q) b := Nat.not_le.mpr hbl
  refine lv_aload_n hx hb dl_386 rfl (lv_at hl 1 rfl) ?_
  refine lv_aload_n hx hb dl_387 rfl (lv_at hl 0 rfl) ?_
  refine lv_iload_n hx hb dl_388 rfl (lv_at hl 3 rfl) ?_
  refine lv_iconst (v := 1) hx hb dl_389 (by decide) ?_
  refine lv_iadd hx hb dl_390 ?_
  refine va_sld hx hb hX hbl hbA hS h1 dl_391 ?_
  refine W.eq (g2 := F0 m 392 ls ((([Value.int (lA xs x 1)] : List Value).reverse ++ Value.ref 0 :: ([] : List Value)).map (am_v s.heap.size))) rfl ?_
  refine lc_virt (ci := 7) hx hb hml hown hts hKs hl.1 hH hS hE1 dl_392 (am_qkb_ok (show am_qkb sLaw sX_input 1 45 = true by decide +kernel)) rfl (am_at_in (i := 567) (by decide +kernel)) (am_at_in (i := 566) (by decide +kernel)) (am_at_in (i := 568) (by decide +kernel)) rfl (Nat.le_of_ble_eq_true rfl) rfl rfl (Nat.le_refl _) (Nat.le_refl _) (fun H locs hH hS => ?_)
  refine W.eq (g2 := F0 m 395 ls [Value.int r]) rfl ?_
  refine lv_aload_n hx hb dl_395 rfl (lv_at hl 2 rfl) ?_
  refine lv_aload_n hx hb dl_396 rfl (lv_at hl 0 rfl) ?_
  refine lv_iload_n hx hb dl_397 rfl (lv_at hl 3 rfl) ?_
  refine lv_iconst (v := 1) hx hb dl_398 (by decide) ?_
  refine lv_iadd hx hb dl_399 ?_
  refine va_sld hx hb hX hbl hbA hS h1 dl_400 ?_
  refine W.eq (g2 := F0 m 401 ls ((([Value.int (lA xs x 1)] : List Value).reverse ++ Value.ref 30 :: [Value.int r]).map (am_v s.heap.size))) rfl ?_
  refine lc_virt (ci := 8) hx hb hml hown hts hKs hl.1 hH hS hE2 dl_401 (am_qkb_ok (show am_qkb sLaw sZ_input 1 55 = true by decide +kernel)) rfl (am_at_in (i := 1000) (by decide +kernel)) (am_at_in (i := 999) (by decide +kernel)) (am_at_in (i := 1001) (by decide +kernel)) hc2 (Nat.le_of_ble_eq_true rfl) rfl rfl (Nat.le_refl _) (Nat.le_refl _) (fun H locs hH hS => ?_)
  refine W.eq (g2 := F0 m 404 ls [Value.int r, Value.int r]) rfl ?_
  refine lv_icmp_eq (tgt := 587) hx hb dl_404 (by decide) (fun _ => ?_) (fun hz => absurd rfl hz)
  exact kk H locs hH hS
set_option maxHeartbeats 4000000 in
set_option maxRecDepth 100000 in
theorem lw_c11 (C0 : LC p s m args c b L xs D cI cZ) (hl : lv_has ls 4 [(0, .ref b), (1, .ref (s.heap.size + 0)), (2, .ref (s.heap.size + 30)), (3, .int x)]) (h1 : vp_in (x + 1) L) (hE1 : am_Ev sX_run [.ref 0, .int (lA xs x 1)] (wX i a (wZ j cc)) (some (.int r)) W1) (hc2 : am_ls W1 30 = some (.inr (8, fs))) (hE2 : am_Ev sZ_run [.ref 30, .int (lA xs x 1)] W1 (some (.int r)) W2) (hH : am_H D cI cZ s.heap.size (wX i a (wZ j cc)) H) (hS : va_S (fun q => s.heap.size ≤ q) s.heap H locs) (kk : ∀ (H1 : Heap) (locs1 : List Loc), am_H D cI cZ s.heap.size W2 H1 → va_S (fun q => s.heap.size ≤ q) s.heap H1 locs1 → W p l e room_1 s m args below meth c H1 locs1 52 1972 Q (F0 m 587 ls [])) : W p l e room_1 s m args below meth c H locs 52 1972 Q (F0 m 409 ls []) := by
  obtain ⟨hx, hb, hml, hown, hts, hKs, hX, hbl⟩ := C0
  have hbA : ¬ (fun q : Nat => s.heap.size ≤ q) b := Nat.not_le.mpr hbl
  refine lv_aload_n hx hb dl_409 rfl (lv_at hl 1 rfl) ?_
  refine lv_aload_n hx hb dl_410 rfl (lv_at hl 0 rfl) ?_
  refine lv_iload_n hx hb dl_411 rfl (lv_at hl 3 rfl) ?_
  refine lv_iconst (v := 1) hx hb dl_412 (by decide) ?_
  refine lv_iadd hx hb dl_413 ?_
  refine va_sld hx hb hX hbl hbA hS h1 dl_414 ?_
  refine W.eq (g2 := F0 m 415 ls ((([Value.int (lA xs x 1)] : List Value).reverse ++ Value.ref 0 :: ([] : List Value)).map (am_v s.heap.size))) rfl ?_
  refine lc_virt (ci := 7) hx hb hml hown hts hKs hl.1 hH hS hE1 dl_415 (am_qkb_ok (show am_qkb sLaw sX_run 1 45 = true by decide +kernel)) rfl (am_at_in (i := 575) (by decide +kernel)) (am_at_in (i := 574) (by decide +kernel)) (am_at_in (i := 576) (by decide +kernel)) rfl (Nat.le_of_ble_eq_true rfl) rfl rfl (Nat.le_refl _) (Nat.le_refl _) (fun H locs hH hS => ?_)
  refine W.eq (g2 := F0 m 418 ls [Value.int r]) rfl ?_
  refine lv_aload_n hx hb dl_418 rfl (lv_at hl 2 rfl) ?_
  refine lv_aload_n hx hb dl_419 rfl (lv_at hl 0 rfl) ?_
  refine lv_iload_n hx hb dl_420 rfl (lv_at hl 3 rfl) ?_
  refine lv_iconst (v := 1) hx hb dl_421 (by decide) ?_
  refine lv_iadd hx hb dl_422 ?_
  refine va_sld hx hb hX hbl hbA hS h1 dl_423 ?_
  refine W.eq (g2 := F0 m 424 ls ((([Value.int (lA xs x 1)] : List Value).reverse ++ Value.ref 30 :: [Value.int r]).map (am_v s.heap.size))) rfl ?_
  refine lc_virt (ci := 8) hx hb hml hown hts hKs hl.1 hH hS hE2 dl_424 (am_qkb_ok (show am_qkb sLaw sZ_run 1 55 = true by decide +kernel)) rfl (am_at_in (i := 1004) (by decide +kernel)) (am_at_in (i := 1003) (by decide +kernel)) (am_at_in (i := 1005) (by decide +kernel)) hc2 (Nat.le_of_ble_eq_true rfl) rfl rfl (Nat.le_refl _) (Nat.le_refl _) (fun H locs hH hS => ?_)
  refine W.eq (g2 := F0 m 427 ls [Value.int r, Value.int r]) rfl ?_
  refine lv_icmp_eq (tgt := 587) hx hb dl_427 (by decide) (fun _ => ?_) (fun hz => absurd rfl hz)
  exact kk H locs hH hS
set_option maxHeartbeats 4000000 in
set_option maxRecDepth 100000 in
theorem lw_c12 (C0 : LC p s m args c b L xs D cI cZ) (hl : lv_has ls 4 [(0, .ref b), (1, .ref (s.heap.size + 0)), (2, .ref (s.heap.size + 30)), (3, .int x)]) (h1 : vp_in (x + 1) L) (hE1 : am_Ev sX_trial [.ref 0, .int (lA xs x 1)] (wX i a (wZ j cc)) (some (.int r)) W1) (hc2 : am_ls W1 30 = some (.inr (8, fs))) (hE2 : am_Ev sZ_trial [.ref 30, .int (lA xs x 1)] W1 (some (.int r)) W2) (hH : am_H D cI cZ s.heap.size (wX i a (wZ j cc)) H) (hS : va_S (fun q => s.heap.size ≤ q) s.heap H locs) (kk : ∀ (H1 : Heap) (locs1 : List Loc), am_H D cI cZ s.heap.size W2 H1 → va_S (fun q => s.heap.size ≤ q) s.heap H1 locs1 → W p l e room_1 s m args below meth c H1 locs1 52 1972 Q (F0 m 587 ls [])) : W p l e room_1 s m args below meth c H locs 52 1972 Q (F0 m 432 ls []) := by
  obtain ⟨hx, hb, hml, hown, hts, hKs, hX, hbl⟩ := C0
  have hbA : ¬ (fun q : Nat => s.heap.size ≤ q) b := Nat.not_le.mpr hbl
  refine lv_aload_n hx hb dl_432 rfl (lv_at hl 1 rfl) ?_
  refine lv_aload_n hx hb dl_433 rfl (lv_at hl 0 rfl) ?_
  refine lv_iload_n hx hb dl_434 rfl (lv_at hl 3 rfl) ?_
  refine lv_iconst (v := 1) hx hb dl_435 (by decide) ?_
  refine lv_iadd hx hb dl_436 ?_
  refine va_sld hx hb hX hbl hbA hS h1 dl_437 ?_
  refine W.eq (g2 := F0 m 438 ls ((([Value.int (lA xs x 1)] : List Value).reverse ++ Value.ref 0 :: ([] : List Value)).map (am_v s.heap.size))) rfl ?_
  refine lc_virt (ci := 7) hx hb hml hown hts hKs hl.1 hH hS hE1 dl_438 (am_qkb_ok (show am_qkb sLaw sX_trial 1 45 = true by decide +kernel)) rfl (am_at_in (i := 709) (by decide +kernel)) (am_at_in (i := 708) (by decide +kernel)) (am_at_in (i := 710) (by decide +kernel)) rfl (Nat.le_of_ble_eq_true rfl) rfl rfl (Nat.le_refl _) (Nat.le_refl _) (fun H locs hH hS => ?_)
  refine W.eq (g2 := F0 m 441 ls [Value.int r]) rfl ?_
  refine lv_aload_n hx hb dl_441 rfl (lv_at hl 2 rfl) ?_
  refine lv_aload_n hx hb dl_442 rfl (lv_at hl 0 rfl) ?_
  refine lv_iload_n hx hb dl_443 rfl (lv_at hl 3 rfl) ?_
  refine lv_iconst (v := 1) hx hb dl_444 (by decide) ?_
  refine lv_iadd hx hb dl_445 ?_
  refine va_sld hx hb hX hbl hbA hS h1 dl_446 ?_
  refine W.eq (g2 := F0 m 447 ls ((([Value.int (lA xs x 1)] : List Value).reverse ++ Value.ref 30 :: [Value.int r]).map (am_v s.heap.size))) rfl ?_
  refine lc_virt (ci := 8) hx hb hml hown hts hKs hl.1 hH hS hE2 dl_447 (am_qkb_ok (show am_qkb sLaw sZ_trial 1 55 = true by decide +kernel)) rfl (am_at_in (i := 1040) (by decide +kernel)) (am_at_in (i := 1039) (by decide +kernel)) (am_at_in (i := 1041) (by decide +kernel)) hc2 (Nat.le_of_ble_eq_true rfl) rfl rfl (Nat.le_refl _) (Nat.le_refl _) (fun H locs hH hS => ?_)
  refine W.eq (g2 := F0 m 450 ls [Value.int r, Value.int r]) rfl ?_
  refine lv_icmp_eq (tgt := 587) hx hb dl_450 (by decide) (fun _ => ?_) (fun hz => absurd rfl hz)
  exact kk H locs hH hS
set_option maxHeartbeats 4000000 in
set_option maxRecDepth 100000 in
theorem lw_c13 (C0 : LC p s m args c b L xs D cI cZ) (hl : lv_has ls 4 [(0, .ref b), (1, .ref (s.heap.size + 0)), (2, .ref (s.heap.size + 30)), (3, .int x)]) (h1 : vp_in (x + 1) L) (h2 : vp_in (x + 2) L) (hE1 : am_Ev sX_state [.ref 0, .int (lA xs x 1), .int (lA xs x 2)] (wX i a (wZ j cc)) (some (.int r)) W1) (hc2 : am_ls W1 30 = some (.inr (8, fs))) (hE2 : am_Ev sZ_state [.ref 30, .int (lA xs x 1), .int (lA xs x 2)] W1 (some (.int r)) W2) (hH : am_H D cI cZ s.heap.size (wX i a (wZ j cc)) H) (hS : va_S (fun q => s.heap.size ≤ q) s.heap H locs) (kk : ∀ (H1 : Heap) (locs1 : List Loc), am_H D cI cZ s.heap.size W2 H1 → va_S (fun q => s.heap.size ≤ q) s.heap H1 locs1 → W p l e room_1 s m args below meth c H1 locs1 52 1972 Q (F0 m 587 ls [])) : W p l e room_1 s m args below meth c H locs 52 1972 Q (F0 m 455 ls []) := by
  obtain ⟨hx, hb, hml, hown, hts, hKs, hX, hbl⟩ := C0
  have hbA : ¬ (fun q : Nat => s.heap.size ≤ q) b := Nat.not_le.mpr hbl
  refine lv_aload_n hx hb dl_455 rfl (lv_at hl 1 rfl) ?_
  refine lv_aload_n hx hb dl_456 rfl (lv_at hl 0 rfl) ?_
  refine lv_iload_n hx hb dl_457 rfl (lv_at hl 3 rfl) ?_
  refine lv_iconst (v := 1) hx hb dl_458 (by decide) ?_
  refine lv_iadd hx hb dl_459 ?_
  refine va_sld hx hb hX hbl hbA hS h1 dl_460 ?_
  refine lv_aload_n hx hb dl_461 rfl (lv_at hl 0 rfl) ?_
  refine lv_iload_n hx hb dl_462 rfl (lv_at hl 3 rfl) ?_
  refine lv_iconst (v := 2) hx hb dl_463 (by decide) ?_
  refine lv_iadd hx hb dl_464 ?_
  refine va_sld hx hb hX hbl hbA hS h2 dl_465 ?_
  refine W.eq (g2 := F0 m 466 ls ((([Value.int (lA xs x 1), Value.int (lA xs x 2)] : List Value).reverse ++ Value.ref 0 :: ([] : List Value)).map (am_v s.heap.size))) rfl ?_
  refine lc_virt (ci := 7) hx hb hml hown hts hKs hl.1 hH hS hE1 dl_466 (am_qkb_ok (show am_qkb sLaw sX_state 2 45 = true by decide +kernel)) rfl (am_at_in (i := 716) (by decide +kernel)) (am_at_in (i := 715) (by decide +kernel)) (am_at_in (i := 717) (by decide +kernel)) rfl (Nat.le_of_ble_eq_true rfl) rfl rfl (Nat.le_refl _) (Nat.le_refl _) (fun H locs hH hS => ?_)
  refine W.eq (g2 := F0 m 469 ls [Value.int r]) rfl ?_
  refine lv_aload_n hx hb dl_469 rfl (lv_at hl 2 rfl) ?_
  refine lv_aload_n hx hb dl_470 rfl (lv_at hl 0 rfl) ?_
  refine lv_iload_n hx hb dl_471 rfl (lv_at hl 3 rfl) ?_
  refine lv_iconst (v := 1) hx hb dl_472 (by decide) ?_
  refine lv_iadd hx hb dl_473 ?_
  refine va_sld hx hb hX hbl hbA hS h1 dl_474 ?_
  refine lv_aload_n hx hb dl_475 rfl (lv_at hl 0 rfl) ?_
  refine lv_iload_n hx hb dl_476 rfl (lv_at hl 3 rfl) ?_
  refine lv_iconst (v := 2) hx hb dl_477 (by decide) ?_
  refine lv_iadd hx hb dl_478 ?_
  refine va_sld hx hb hX hbl hbA hS h2 dl_479 ?_
  refine W.eq (g2 := F0 m 480 ls ((([Value.int (lA xs x 1), Value.int (lA xs x 2)] : List Value).reverse ++ Value.ref 30 :: [Value.int r]).map (am_v s.heap.size))) rfl ?_
  refine lc_virt (ci := 8) hx hb hml hown hts hKs hl.1 hH hS hE2 dl_480 (am_qkb_ok (show am_qkb sLaw sZ_state 2 55 = true by decide +kernel)) rfl (am_at_in (i := 1052) (by decide +kernel)) (am_at_in (i := 1051) (by decide +kernel)) (am_at_in (i := 1053) (by decide +kernel)) hc2 (Nat.le_of_ble_eq_true rfl) rfl rfl (Nat.le_refl _) (Nat.le_refl _) (fun H locs hH hS => ?_)
  refine W.eq (g2 := F0 m 483 ls [Value.int r, Value.int r]) rfl ?_
  refine lv_icmp_eq (tgt := 587) hx hb dl_483 (by decide) (fun _ => ?_) (fun hz => absurd rfl hz)
  exact kk H locs hH hS
set_option maxHeartbeats 4000000 in
set_option maxRecDepth 100000 in
theorem lw_c14 (C0 : LC p s m args c b L xs D cI cZ) (hl : lv_has ls 4 [(0, .ref b), (1, .ref (s.heap.size + 0)), (2, .ref (s.heap.size + 30)), (3, .int x)]) (h1 : vp_in (x + 1) L) (h2 : vp_in (x + 2) L) (hE1 : am_Ev sX_output [.ref 0, .int (lA xs x 1), .int (lA xs x 2)] (wX i a (wZ j cc)) (some (.int r)) W1) (hc2 : am_ls W1 30 = some (.inr (8, fs))) (hE2 : am_Ev sZ_output [.ref 30, .int (lA xs x 1), .int (lA xs x 2)] W1 (some (.int r)) W2) (hH : am_H D cI cZ s.heap.size (wX i a (wZ j cc)) H) (hS : va_S (fun q => s.heap.size ≤ q) s.heap H locs) (kk : ∀ (H1 : Heap) (locs1 : List Loc), am_H D cI cZ s.heap.size W2 H1 → va_S (fun q => s.heap.size ≤ q) s.heap H1 locs1 → W p l e room_1 s m args below meth c H1 locs1 52 1972 Q (F0 m 587 ls [])) : W p l e room_1 s m args below meth c H locs 52 1972 Q (F0 m 488 ls []) := by
  obtain ⟨hx, hb, hml, hown, hts, hKs, hX, hbl⟩ := C0
  have hbA : ¬ (fun q : Nat => s.heap.size ≤ q) b := Nat.not_le.mpr hbl
  refine lv_aload_n hx hb dl_488 rfl (lv_at hl 1 rfl) ?_
  refine lv_aload_n hx hb dl_489 rfl (lv_at hl 0 rfl) ?_
  refine lv_iload_n hx hb dl_490 rfl (lv_at hl 3 rfl) ?_
  refine lv_iconst (v := 1) hx hb dl_491 (by decide) ?_
  refine lv_iadd hx hb dl_492 ?_
  refine va_sld hx hb hX hbl hbA hS h1 dl_493 ?_
  refine lv_aload_n hx hb dl_494 rfl (lv_at hl 0 rfl) ?_
  refine lv_iload_n hx hb dl_495 rfl (lv_at hl 3 rfl) ?_
  refine lv_iconst (v := 2) hx hb dl_496 (by decide) ?_
  refine lv_iadd hx hb dl_497 ?_
  refine va_sld hx hb hX hbl hbA hS h2 dl_498 ?_
  refine W.eq (g2 := F0 m 499 ls ((([Value.int (lA xs x 1), Value.int (lA xs x 2)] : List Value).reverse ++ Value.ref 0 :: ([] : List Value)).map (am_v s.heap.size))) rfl ?_
  refine lc_virt (ci := 7) hx hb hml hown hts hKs hl.1 hH hS hE1 dl_499 (am_qkb_ok (show am_qkb sLaw sX_output 2 45 = true by decide +kernel)) rfl (am_at_in (i := 724) (by decide +kernel)) (am_at_in (i := 723) (by decide +kernel)) (am_at_in (i := 725) (by decide +kernel)) rfl (Nat.le_of_ble_eq_true rfl) rfl rfl (Nat.le_refl _) (Nat.le_refl _) (fun H locs hH hS => ?_)
  refine W.eq (g2 := F0 m 502 ls [Value.int r]) rfl ?_
  refine lv_aload_n hx hb dl_502 rfl (lv_at hl 2 rfl) ?_
  refine lv_aload_n hx hb dl_503 rfl (lv_at hl 0 rfl) ?_
  refine lv_iload_n hx hb dl_504 rfl (lv_at hl 3 rfl) ?_
  refine lv_iconst (v := 1) hx hb dl_505 (by decide) ?_
  refine lv_iadd hx hb dl_506 ?_
  refine va_sld hx hb hX hbl hbA hS h1 dl_507 ?_
  refine lv_aload_n hx hb dl_508 rfl (lv_at hl 0 rfl) ?_
  refine lv_iload_n hx hb dl_509 rfl (lv_at hl 3 rfl) ?_
  refine lv_iconst (v := 2) hx hb dl_510 (by decide) ?_
  refine lv_iadd hx hb dl_511 ?_
  refine va_sld hx hb hX hbl hbA hS h2 dl_512 ?_
  refine W.eq (g2 := F0 m 513 ls ((([Value.int (lA xs x 1), Value.int (lA xs x 2)] : List Value).reverse ++ Value.ref 30 :: [Value.int r]).map (am_v s.heap.size))) rfl ?_
  refine lc_virt (ci := 8) hx hb hml hown hts hKs hl.1 hH hS hE2 dl_513 (am_qkb_ok (show am_qkb sLaw sZ_output 2 55 = true by decide +kernel)) rfl (am_at_in (i := 1056) (by decide +kernel)) (am_at_in (i := 1055) (by decide +kernel)) (am_at_in (i := 1057) (by decide +kernel)) hc2 (Nat.le_of_ble_eq_true rfl) rfl rfl (Nat.le_refl _) (Nat.le_refl _) (fun H locs hH hS => ?_)
  refine W.eq (g2 := F0 m 516 ls [Value.int r, Value.int r]) rfl ?_
  refine lv_icmp_eq (tgt := 587) hx hb dl_516 (by decide) (fun _ => ?_) (fun hz => absurd rfl hz)
  exact kk H locs hH hS
set_option maxHeartbeats 4000000 in
set_option maxRecDepth 100000 in
theorem lw_c15 (C0 : LC p s m args c b L xs D cI cZ) (hl : lv_has ls 4 [(0, .ref b), (1, .ref (s.heap.size + 0)), (2, .ref (s.heap.size + 30)), (3, .int x)]) (h1 : vp_in (x + 1) L) (h2 : vp_in (x + 2) L) (hE1 : am_Ev sX_register [.ref 0, .int (lA xs x 1), .int (lA xs x 2)] (wX i a (wZ j cc)) (some (.int r)) W1) (hc2 : am_ls W1 30 = some (.inr (8, fs))) (hE2 : am_Ev sZ_register [.ref 30, .int (lA xs x 1), .int (lA xs x 2)] W1 (some (.int r)) W2) (hH : am_H D cI cZ s.heap.size (wX i a (wZ j cc)) H) (hS : va_S (fun q => s.heap.size ≤ q) s.heap H locs) (kk : ∀ (H1 : Heap) (locs1 : List Loc), am_H D cI cZ s.heap.size W2 H1 → va_S (fun q => s.heap.size ≤ q) s.heap H1 locs1 → W p l e room_1 s m args below meth c H1 locs1 52 1972 Q (F0 m 587 ls [])) : W p l e room_1 s m args below meth c H locs 52 1972 Q (F0 m 521 ls []) := by
  obtain ⟨hx, hb, hml, hown, hts, hKs, hX, hbl⟩ := C0
  have hbA : ¬ (fun q : Nat => s.heap.size ≤ q) b := Nat.not_le.mpr hbl
  refine lv_aload_n hx hb dl_521 rfl (lv_at hl 1 rfl) ?_
  refine lv_aload_n hx hb dl_522 rfl (lv_at hl 0 rfl) ?_
  refine lv_iload_n hx hb dl_523 rfl (lv_at hl 3 rfl) ?_
  refine lv_iconst (v := 1) hx hb dl_524 (by decide) ?_
  refine lv_iadd hx hb dl_525 ?_
  refine va_sld hx hb hX hbl hbA hS h1 dl_526 ?_
  refine lv_aload_n hx hb dl_527 rfl (lv_at hl 0 rfl) ?_
  refine lv_iload_n hx hb dl_528 rfl (lv_at hl 3 rfl) ?_
  refine lv_iconst (v := 2) hx hb dl_529 (by decide) ?_
  refine lv_iadd hx hb dl_530 ?_
  refine va_sld hx hb hX hbl hbA hS h2 dl_531 ?_
  refine W.eq (g2 := F0 m 532 ls ((([Value.int (lA xs x 1), Value.int (lA xs x 2)] : List Value).reverse ++ Value.ref 0 :: ([] : List Value)).map (am_v s.heap.size))) rfl ?_
  refine lc_virt (ci := 7) hx hb hml hown hts hKs hl.1 hH hS hE1 dl_532 (am_qkb_ok (show am_qkb sLaw sX_register 2 45 = true by decide +kernel)) rfl (am_at_in (i := 734) (by decide +kernel)) (am_at_in (i := 733) (by decide +kernel)) (am_at_in (i := 735) (by decide +kernel)) rfl (Nat.le_of_ble_eq_true rfl) rfl rfl (Nat.le_refl _) (Nat.le_refl _) (fun H locs hH hS => ?_)
  refine W.eq (g2 := F0 m 535 ls [Value.int r]) rfl ?_
  refine lv_aload_n hx hb dl_535 rfl (lv_at hl 2 rfl) ?_
  refine lv_aload_n hx hb dl_536 rfl (lv_at hl 0 rfl) ?_
  refine lv_iload_n hx hb dl_537 rfl (lv_at hl 3 rfl) ?_
  refine lv_iconst (v := 1) hx hb dl_538 (by decide) ?_
  refine lv_iadd hx hb dl_539 ?_
  refine va_sld hx hb hX hbl hbA hS h1 dl_540 ?_
  refine lv_aload_n hx hb dl_541 rfl (lv_at hl 0 rfl) ?_
  refine lv_iload_n hx hb dl_542 rfl (lv_at hl 3 rfl) ?_
  refine lv_iconst (v := 2) hx hb dl_543 (by decide) ?_
  refine lv_iadd hx hb dl_544 ?_
  refine va_sld hx hb hX hbl hbA hS h2 dl_545 ?_
  refine W.eq (g2 := F0 m 546 ls ((([Value.int (lA xs x 1), Value.int (lA xs x 2)] : List Value).reverse ++ Value.ref 30 :: [Value.int r]).map (am_v s.heap.size))) rfl ?_
  refine lc_virt (ci := 8) hx hb hml hown hts hKs hl.1 hH hS hE2 dl_546 (am_qkb_ok (show am_qkb sLaw sZ_register 2 55 = true by decide +kernel)) rfl (am_at_in (i := 1060) (by decide +kernel)) (am_at_in (i := 1059) (by decide +kernel)) (am_at_in (i := 1061) (by decide +kernel)) hc2 (Nat.le_of_ble_eq_true rfl) rfl rfl (Nat.le_refl _) (Nat.le_refl _) (fun H locs hH hS => ?_)
  refine W.eq (g2 := F0 m 549 ls [Value.int r, Value.int r]) rfl ?_
  refine lv_icmp_eq (tgt := 587) hx hb dl_549 (by decide) (fun _ => ?_) (fun hz => absurd rfl hz)
  exact kk H locs hH hS
set_option maxHeartbeats 4000000 in
set_option maxRecDepth 100000 in
theorem lw_c16 (C0 : LC p s m args c b L xs D cI cZ) (hl : lv_has ls 4 [(0, .ref b), (1, .ref (s.heap.size + 0)), (2, .ref (s.heap.size + 30)), (3, .int x)]) (h1 : vp_in (x + 1) L) (h2 : vp_in (x + 2) L) (hE1 : am_Ev sX_word [.ref 0, .int (lA xs x 1), .int (lA xs x 2)] (wX i a (wZ j cc)) (some (.int r)) W1) (hc2 : am_ls W1 30 = some (.inr (8, fs))) (hE2 : am_Ev sZ_word [.ref 30, .int (lA xs x 1), .int (lA xs x 2)] W1 (some (.int r)) W2) (hH : am_H D cI cZ s.heap.size (wX i a (wZ j cc)) H) (hS : va_S (fun q => s.heap.size ≤ q) s.heap H locs) (kk : ∀ (H1 : Heap) (locs1 : List Loc), am_H D cI cZ s.heap.size W2 H1 → va_S (fun q => s.heap.size ≤ q) s.heap H1 locs1 → W p l e room_1 s m args below meth c H1 locs1 52 1972 Q (F0 m 587 ls [])) : W p l e room_1 s m args below meth c H locs 52 1972 Q (F0 m 554 ls []) := by
  obtain ⟨hx, hb, hml, hown, hts, hKs, hX, hbl⟩ := C0
  have hbA : ¬ (fun q : Nat => s.heap.size ≤ q) b := Nat.not_le.mpr hbl
  refine lv_aload_n hx hb dl_554 rfl (lv_at hl 1 rfl) ?_
  refine lv_aload_n hx hb dl_555 rfl (lv_at hl 0 rfl) ?_
  refine lv_iload_n hx hb dl_556 rfl (lv_at hl 3 rfl) ?_
  refine lv_iconst (v := 1) hx hb dl_557 (by decide) ?_
  refine lv_iadd hx hb dl_558 ?_
  refine va_sld hx hb hX hbl hbA hS h1 dl_559 ?_
  refine lv_aload_n hx hb dl_560 rfl (lv_at hl 0 rfl) ?_
  refine lv_iload_n hx hb dl_561 rfl (lv_at hl 3 rfl) ?_
  refine lv_iconst (v := 2) hx hb dl_562 (by decide) ?_
  refine lv_iadd hx hb dl_563 ?_
  refine va_sld hx hb hX hbl hbA hS h2 dl_564 ?_
  refine W.eq (g2 := F0 m 565 ls ((([Value.int (lA xs x 1), Value.int (lA xs x 2)] : List Value).reverse ++ Value.ref 0 :: ([] : List Value)).map (am_v s.heap.size))) rfl ?_
  refine lc_virt (ci := 7) hx hb hml hown hts hKs hl.1 hH hS hE1 dl_565 (am_qkb_ok (show am_qkb sLaw sX_word 2 45 = true by decide +kernel)) rfl (am_at_in (i := 739) (by decide +kernel)) (am_at_in (i := 738) (by decide +kernel)) (am_at_in (i := 740) (by decide +kernel)) rfl (Nat.le_of_ble_eq_true rfl) rfl rfl (Nat.le_refl _) (Nat.le_refl _) (fun H locs hH hS => ?_)
  refine W.eq (g2 := F0 m 568 ls [Value.int r]) rfl ?_
  refine lv_aload_n hx hb dl_568 rfl (lv_at hl 2 rfl) ?_
  refine lv_aload_n hx hb dl_569 rfl (lv_at hl 0 rfl) ?_
  refine lv_iload_n hx hb dl_570 rfl (lv_at hl 3 rfl) ?_
  refine lv_iconst (v := 1) hx hb dl_571 (by decide) ?_
  refine lv_iadd hx hb dl_572 ?_
  refine va_sld hx hb hX hbl hbA hS h1 dl_573 ?_
  refine lv_aload_n hx hb dl_574 rfl (lv_at hl 0 rfl) ?_
  refine lv_iload_n hx hb dl_575 rfl (lv_at hl 3 rfl) ?_
  refine lv_iconst (v := 2) hx hb dl_576 (by decide) ?_
  refine lv_iadd hx hb dl_577 ?_
  refine va_sld hx hb hX hbl hbA hS h2 dl_578 ?_
  refine W.eq (g2 := F0 m 579 ls ((([Value.int (lA xs x 1), Value.int (lA xs x 2)] : List Value).reverse ++ Value.ref 30 :: [Value.int r]).map (am_v s.heap.size))) rfl ?_
  refine lc_virt (ci := 8) hx hb hml hown hts hKs hl.1 hH hS hE2 dl_579 (am_qkb_ok (show am_qkb sLaw sZ_word 2 55 = true by decide +kernel)) rfl (am_at_in (i := 1064) (by decide +kernel)) (am_at_in (i := 1063) (by decide +kernel)) (am_at_in (i := 1065) (by decide +kernel)) hc2 (Nat.le_of_ble_eq_true rfl) rfl rfl (Nat.le_refl _) (Nat.le_refl _) (fun H locs hH hS => ?_)
  refine W.eq (g2 := F0 m 582 ls [Value.int r, Value.int r]) rfl ?_
  refine lv_icmp_eq (tgt := 587) hx hb dl_582 (by decide) (fun _ => ?_) (fun hz => absurd rfl hz)
  exact kk H locs hH hS
end LWD

set_option maxHeartbeats 4000000 in
set_option maxRecDepth 100000 in
theorem tZ_init_22 (i : Nat → Int32) (a : Nat → Nat → Int32) : am_T sZ_init none (wX i a (wZ i0 a0)) 170 [.ref 30] [] (wX i a [.inr (8, [.int 0, .ref 31, .ref 32, .ref 33, .ref 34, .int 0, .int 0, .ref 35, .ref 36, .ref 37, .ref 38, .ref 39, .ref 40, .ref 41, .int 0, .ref 42, .ref 43, .int 0, .int 0, .ref 44, .ref 45, .ref 46, .ref 47, .ref 48, .ref 49, .ref 50, .ref 51, .int 0]), .inl (false, 20, fun _ => 0), .inl (false, 20, fun _ => 0), .inl (false, 20, fun _ => 0), .inl (false, 20, fun _ => 0), .inl (false, 20, fun _ => 0), .inl (false, 20, fun _ => 0), .inl (false, 20, fun _ => 0), .inl (false, 20, fun _ => 0), .inl (false, 21, fun _ => 0), .inl (false, 21, fun _ => 0), .inl (false, 21, fun _ => 0), .inl (false, 256, fun _ => 0), .inl (true, 256, fun _ => 0), .inl (false, 20, fun _ => 0), .inl (false, 64, fun _ => 0), .inl (false, 32, fun _ => 0), .inl (false, 80, fun _ => 0), .inl (false, 2, fun _ => 0), .inl (false, 2, fun _ => 0), .inl (false, 2, fun _ => 0), .inl (true, 2, fun _ => 0)]) 21 939 := by
  refine am_wu_T gdZ_init [4, 12, 20, 28, 36, 44, 52, 60, 68, 76, 84, 92, 101, 110, 118, 126, 134, 142, 149, 156, 163, 170] 50 ?_
  exact am_rv (S := sZ_init) rfl rfl
set_option maxHeartbeats 4000000 in
set_option maxRecDepth 100000 in
theorem tZ_init_21 (i : Nat → Int32) (a : Nat → Nat → Int32) : am_T sZ_init none (wX i a (wZ i0 a0)) 163 [.ref 30] [] (wX i a [.inr (8, [.int 0, .ref 31, .ref 32, .ref 33, .ref 34, .int 0, .int 0, .ref 35, .ref 36, .ref 37, .ref 38, .ref 39, .ref 40, .ref 41, .int 0, .ref 42, .ref 43, .int 0, .int 0, .ref 44, .ref 45, .ref 46, .ref 47, .ref 48, .ref 49, .ref 50, .null, .int 0]), .inl (false, 20, fun _ => 0), .inl (false, 20, fun _ => 0), .inl (false, 20, fun _ => 0), .inl (false, 20, fun _ => 0), .inl (false, 20, fun _ => 0), .inl (false, 20, fun _ => 0), .inl (false, 20, fun _ => 0), .inl (false, 20, fun _ => 0), .inl (false, 21, fun _ => 0), .inl (false, 21, fun _ => 0), .inl (false, 21, fun _ => 0), .inl (false, 256, fun _ => 0), .inl (true, 256, fun _ => 0), .inl (false, 20, fun _ => 0), .inl (false, 64, fun _ => 0), .inl (false, 32, fun _ => 0), .inl (false, 80, fun _ => 0), .inl (false, 2, fun _ => 0), .inl (false, 2, fun _ => 0), .inl (false, 2, fun _ => 0)]) 20 937 := by
  refine am_wu_T gdZ_init [4, 12, 20, 28, 36, 44, 52, 60, 68, 76, 84, 92, 101, 110, 118, 126, 134, 142, 149, 156, 163, 170] 50 ?_
  exact tZ_init_22 i a
set_option maxHeartbeats 4000000 in
set_option maxRecDepth 100000 in
theorem tZ_init_20 (i : Nat → Int32) (a : Nat → Nat → Int32) : am_T sZ_init none (wX i a (wZ i0 a0)) 156 [.ref 30] [] (wX i a [.inr (8, [.int 0, .ref 31, .ref 32, .ref 33, .ref 34, .int 0, .int 0, .ref 35, .ref 36, .ref 37, .ref 38, .ref 39, .ref 40, .ref 41, .int 0, .ref 42, .ref 43, .int 0, .int 0, .ref 44, .ref 45, .ref 46, .ref 47, .ref 48, .ref 49, .null, .null, .int 0]), .inl (false, 20, fun _ => 0), .inl (false, 20, fun _ => 0), .inl (false, 20, fun _ => 0), .inl (false, 20, fun _ => 0), .inl (false, 20, fun _ => 0), .inl (false, 20, fun _ => 0), .inl (false, 20, fun _ => 0), .inl (false, 20, fun _ => 0), .inl (false, 21, fun _ => 0), .inl (false, 21, fun _ => 0), .inl (false, 21, fun _ => 0), .inl (false, 256, fun _ => 0), .inl (true, 256, fun _ => 0), .inl (false, 20, fun _ => 0), .inl (false, 64, fun _ => 0), .inl (false, 32, fun _ => 0), .inl (false, 80, fun _ => 0), .inl (false, 2, fun _ => 0), .inl (false, 2, fun _ => 0)]) 19 935 := by
  refine am_wu_T gdZ_init [4, 12, 20, 28, 36, 44, 52, 60, 68, 76, 84, 92, 101, 110, 118, 126, 134, 142, 149, 156, 163, 170] 50 ?_
  exact tZ_init_21 i a
set_option maxHeartbeats 4000000 in
set_option maxRecDepth 100000 in
theorem tZ_init_19 (i : Nat → Int32) (a : Nat → Nat → Int32) : am_T sZ_init none (wX i a (wZ i0 a0)) 149 [.ref 30] [] (wX i a [.inr (8, [.int 0, .ref 31, .ref 32, .ref 33, .ref 34, .int 0, .int 0, .ref 35, .ref 36, .ref 37, .ref 38, .ref 39, .ref 40, .ref 41, .int 0, .ref 42, .ref 43, .int 0, .int 0, .ref 44, .ref 45, .ref 46, .ref 47, .ref 48, .null, .null, .null, .int 0]), .inl (false, 20, fun _ => 0), .inl (false, 20, fun _ => 0), .inl (false, 20, fun _ => 0), .inl (false, 20, fun _ => 0), .inl (false, 20, fun _ => 0), .inl (false, 20, fun _ => 0), .inl (false, 20, fun _ => 0), .inl (false, 20, fun _ => 0), .inl (false, 21, fun _ => 0), .inl (false, 21, fun _ => 0), .inl (false, 21, fun _ => 0), .inl (false, 256, fun _ => 0), .inl (true, 256, fun _ => 0), .inl (false, 20, fun _ => 0), .inl (false, 64, fun _ => 0), .inl (false, 32, fun _ => 0), .inl (false, 80, fun _ => 0), .inl (false, 2, fun _ => 0)]) 18 933 := by
  refine am_wu_T gdZ_init [4, 12, 20, 28, 36, 44, 52, 60, 68, 76, 84, 92, 101, 110, 118, 126, 134, 142, 149, 156, 163, 170] 50 ?_
  exact tZ_init_20 i a
set_option maxHeartbeats 4000000 in
set_option maxRecDepth 100000 in
theorem tZ_init_18 (i : Nat → Int32) (a : Nat → Nat → Int32) : am_T sZ_init none (wX i a (wZ i0 a0)) 142 [.ref 30] [] (wX i a [.inr (8, [.int 0, .ref 31, .ref 32, .ref 33, .ref 34, .int 0, .int 0, .ref 35, .ref 36, .ref 37, .ref 38, .ref 39, .ref 40, .ref 41, .int 0, .ref 42, .ref 43, .int 0, .int 0, .ref 44, .ref 45, .ref 46, .ref 47, .null, .null, .null, .null, .int 0]), .inl (false, 20, fun _ => 0), .inl (false, 20, fun _ => 0), .inl (false, 20, fun _ => 0), .inl (false, 20, fun _ => 0), .inl (false, 20, fun _ => 0), .inl (false, 20, fun _ => 0), .inl (false, 20, fun _ => 0), .inl (false, 20, fun _ => 0), .inl (false, 21, fun _ => 0), .inl (false, 21, fun _ => 0), .inl (false, 21, fun _ => 0), .inl (false, 256, fun _ => 0), .inl (true, 256, fun _ => 0), .inl (false, 20, fun _ => 0), .inl (false, 64, fun _ => 0), .inl (false, 32, fun _ => 0), .inl (false, 80, fun _ => 0)]) 17 931 := by
  refine am_wu_T gdZ_init [4, 12, 20, 28, 36, 44, 52, 60, 68, 76, 84, 92, 101, 110, 118, 126, 134, 142, 149, 156, 163, 170] 50 ?_
  exact tZ_init_19 i a
set_option maxHeartbeats 4000000 in
set_option maxRecDepth 100000 in
theorem tZ_init_17 (i : Nat → Int32) (a : Nat → Nat → Int32) : am_T sZ_init none (wX i a (wZ i0 a0)) 134 [.ref 30] [] (wX i a [.inr (8, [.int 0, .ref 31, .ref 32, .ref 33, .ref 34, .int 0, .int 0, .ref 35, .ref 36, .ref 37, .ref 38, .ref 39, .ref 40, .ref 41, .int 0, .ref 42, .ref 43, .int 0, .int 0, .ref 44, .ref 45, .ref 46, .null, .null, .null, .null, .null, .int 0]), .inl (false, 20, fun _ => 0), .inl (false, 20, fun _ => 0), .inl (false, 20, fun _ => 0), .inl (false, 20, fun _ => 0), .inl (false, 20, fun _ => 0), .inl (false, 20, fun _ => 0), .inl (false, 20, fun _ => 0), .inl (false, 20, fun _ => 0), .inl (false, 21, fun _ => 0), .inl (false, 21, fun _ => 0), .inl (false, 21, fun _ => 0), .inl (false, 256, fun _ => 0), .inl (true, 256, fun _ => 0), .inl (false, 20, fun _ => 0), .inl (false, 64, fun _ => 0), .inl (false, 32, fun _ => 0)]) 16 851 := by
  refine am_wu_T gdZ_init [4, 12, 20, 28, 36, 44, 52, 60, 68, 76, 84, 92, 101, 110, 118, 126, 134, 142, 149, 156, 163, 170] 50 ?_
  exact tZ_init_18 i a
set_option maxHeartbeats 4000000 in
set_option maxRecDepth 100000 in
theorem tZ_init_16 (i : Nat → Int32) (a : Nat → Nat → Int32) : am_T sZ_init none (wX i a (wZ i0 a0)) 126 [.ref 30] [] (wX i a [.inr (8, [.int 0, .ref 31, .ref 32, .ref 33, .ref 34, .int 0, .int 0, .ref 35, .ref 36, .ref 37, .ref 38, .ref 39, .ref 40, .ref 41, .int 0, .ref 42, .ref 43, .int 0, .int 0, .ref 44, .ref 45, .null, .null, .null, .null, .null, .null, .int 0]), .inl (false, 20, fun _ => 0), .inl (false, 20, fun _ => 0), .inl (false, 20, fun _ => 0), .inl (false, 20, fun _ => 0), .inl (false, 20, fun _ => 0), .inl (false, 20, fun _ => 0), .inl (false, 20, fun _ => 0), .inl (false, 20, fun _ => 0), .inl (false, 21, fun _ => 0), .inl (false, 21, fun _ => 0), .inl (false, 21, fun _ => 0), .inl (false, 256, fun _ => 0), .inl (true, 256, fun _ => 0), .inl (false, 20, fun _ => 0), .inl (false, 64, fun _ => 0)]) 15 819 := by
  refine am_wu_T gdZ_init [4, 12, 20, 28, 36, 44, 52, 60, 68, 76, 84, 92, 101, 110, 118, 126, 134, 142, 149, 156, 163, 170] 50 ?_
  exact tZ_init_17 i a
set_option maxHeartbeats 4000000 in
set_option maxRecDepth 100000 in
theorem tZ_init_15 (i : Nat → Int32) (a : Nat → Nat → Int32) : am_T sZ_init none (wX i a (wZ i0 a0)) 118 [.ref 30] [] (wX i a [.inr (8, [.int 0, .ref 31, .ref 32, .ref 33, .ref 34, .int 0, .int 0, .ref 35, .ref 36, .ref 37, .ref 38, .ref 39, .ref 40, .ref 41, .int 0, .ref 42, .ref 43, .int 0, .int 0, .ref 44, .null, .null, .null, .null, .null, .null, .null, .int 0]), .inl (false, 20, fun _ => 0), .inl (false, 20, fun _ => 0), .inl (false, 20, fun _ => 0), .inl (false, 20, fun _ => 0), .inl (false, 20, fun _ => 0), .inl (false, 20, fun _ => 0), .inl (false, 20, fun _ => 0), .inl (false, 20, fun _ => 0), .inl (false, 21, fun _ => 0), .inl (false, 21, fun _ => 0), .inl (false, 21, fun _ => 0), .inl (false, 256, fun _ => 0), .inl (true, 256, fun _ => 0), .inl (false, 20, fun _ => 0)]) 14 755 := by
  refine am_wu_T gdZ_init [4, 12, 20, 28, 36, 44, 52, 60, 68, 76, 84, 92, 101, 110, 118, 126, 134, 142, 149, 156, 163, 170] 50 ?_
  exact tZ_init_16 i a
set_option maxHeartbeats 4000000 in
set_option maxRecDepth 100000 in
theorem tZ_init_14 (i : Nat → Int32) (a : Nat → Nat → Int32) : am_T sZ_init none (wX i a (wZ i0 a0)) 110 [.ref 30] [] (wX i a [.inr (8, [.int 0, .ref 31, .ref 32, .ref 33, .ref 34, .int 0, .int 0, .ref 35, .ref 36, .ref 37, .ref 38, .ref 39, .ref 40, .ref 41, .int 0, .ref 42, .ref 43, .int 0, .int 0, .null, .null, .null, .null, .null, .null, .null, .null, .int 0]), .inl (false, 20, fun _ => 0), .inl (false, 20, fun _ => 0), .inl (false, 20, fun _ => 0), .inl (false, 20, fun _ => 0), .inl (false, 20, fun _ => 0), .inl (false, 20, fun _ => 0), .inl (false, 20, fun _ => 0), .inl (false, 20, fun _ => 0), .inl (false, 21, fun _ => 0), .inl (false, 21, fun _ => 0), .inl (false, 21, fun _ => 0), .inl (false, 256, fun _ => 0), .inl (true, 256, fun _ => 0)]) 13 735 := by
  refine am_wu_T gdZ_init [4, 12, 20, 28, 36, 44, 52, 60, 68, 76, 84, 92, 101, 110, 118, 126, 134, 142, 149, 156, 163, 170] 50 ?_
  exact tZ_init_15 i a
set_option maxHeartbeats 4000000 in
set_option maxRecDepth 100000 in
theorem tZ_init_13 (i : Nat → Int32) (a : Nat → Nat → Int32) : am_T sZ_init none (wX i a (wZ i0 a0)) 101 [.ref 30] [] (wX i a [.inr (8, [.int 0, .ref 31, .ref 32, .ref 33, .ref 34, .int 0, .int 0, .ref 35, .ref 36, .ref 37, .ref 38, .ref 39, .ref 40, .ref 41, .int 0, .ref 42, .null, .int 0, .int 0, .null, .null, .null, .null, .null, .null, .null, .null, .int 0]), .inl (false, 20, fun _ => 0), .inl (false, 20, fun _ => 0), .inl (false, 20, fun _ => 0), .inl (false, 20, fun _ => 0), .inl (false, 20, fun _ => 0), .inl (false, 20, fun _ => 0), .inl (false, 20, fun _ => 0), .inl (false, 20, fun _ => 0), .inl (false, 21, fun _ => 0), .inl (false, 21, fun _ => 0), .inl (false, 21, fun _ => 0), .inl (false, 256, fun _ => 0)]) 12 479 := by
  refine am_wu_T gdZ_init [4, 12, 20, 28, 36, 44, 52, 60, 68, 76, 84, 92, 101, 110, 118, 126, 134, 142, 149, 156, 163, 170] 50 ?_
  exact tZ_init_14 i a
set_option maxHeartbeats 4000000 in
set_option maxRecDepth 100000 in
theorem tZ_init_12 (i : Nat → Int32) (a : Nat → Nat → Int32) : am_T sZ_init none (wX i a (wZ i0 a0)) 92 [.ref 30] [] (wX i a [.inr (8, [.int 0, .ref 31, .ref 32, .ref 33, .ref 34, .int 0, .int 0, .ref 35, .ref 36, .ref 37, .ref 38, .ref 39, .ref 40, .ref 41, .int 0, .null, .null, .int 0, .int 0, .null, .null, .null, .null, .null, .null, .null, .null, .int 0]), .inl (false, 20, fun _ => 0), .inl (false, 20, fun _ => 0), .inl (false, 20, fun _ => 0), .inl (false, 20, fun _ => 0), .inl (false, 20, fun _ => 0), .inl (false, 20, fun _ => 0), .inl (false, 20, fun _ => 0), .inl (false, 20, fun _ => 0), .inl (false, 21, fun _ => 0), .inl (false, 21, fun _ => 0), .inl (false, 21, fun _ => 0)]) 11 223 := by
  refine am_wu_T gdZ_init [4, 12, 20, 28, 36, 44, 52, 60, 68, 76, 84, 92, 101, 110, 118, 126, 134, 142, 149, 156, 163, 170] 50 ?_
  exact tZ_init_13 i a
set_option maxHeartbeats 4000000 in
set_option maxRecDepth 100000 in
theorem tZ_init_11 (i : Nat → Int32) (a : Nat → Nat → Int32) : am_T sZ_init none (wX i a (wZ i0 a0)) 84 [.ref 30] [] (wX i a [.inr (8, [.int 0, .ref 31, .ref 32, .ref 33, .ref 34, .int 0, .int 0, .ref 35, .ref 36, .ref 37, .ref 38, .ref 39, .ref 40, .null, .int 0, .null, .null, .int 0, .int 0, .null, .null, .null, .null, .null, .null, .null, .null, .int 0]), .inl (false, 20, fun _ => 0), .inl (false, 20, fun _ => 0), .inl (false, 20, fun _ => 0), .inl (false, 20, fun _ => 0), .inl (false, 20, fun _ => 0), .inl (false, 20, fun _ => 0), .inl (false, 20, fun _ => 0), .inl (false, 20, fun _ => 0), .inl (false, 21, fun _ => 0), .inl (false, 21, fun _ => 0)]) 10 202 := by
  refine am_wu_T gdZ_init [4, 12, 20, 28, 36, 44, 52, 60, 68, 76, 84, 92, 101, 110, 118, 126, 134, 142, 149, 156, 163, 170] 50 ?_
  exact tZ_init_12 i a
set_option maxHeartbeats 4000000 in
set_option maxRecDepth 100000 in
theorem tZ_init_10 (i : Nat → Int32) (a : Nat → Nat → Int32) : am_T sZ_init none (wX i a (wZ i0 a0)) 76 [.ref 30] [] (wX i a [.inr (8, [.int 0, .ref 31, .ref 32, .ref 33, .ref 34, .int 0, .int 0, .ref 35, .ref 36, .ref 37, .ref 38, .ref 39, .null, .null, .int 0, .null, .null, .int 0, .int 0, .null, .null, .null, .null, .null, .null, .null, .null, .int 0]), .inl (false, 20, fun _ => 0), .inl (false, 20, fun _ => 0), .inl (false, 20, fun _ => 0), .inl (false, 20, fun _ => 0), .inl (false, 20, fun _ => 0), .inl (false, 20, fun _ => 0), .inl (false, 20, fun _ => 0), .inl (false, 20, fun _ => 0), .inl (false, 21, fun _ => 0)]) 9 181 := by
  refine am_wu_T gdZ_init [4, 12, 20, 28, 36, 44, 52, 60, 68, 76, 84, 92, 101, 110, 118, 126, 134, 142, 149, 156, 163, 170] 50 ?_
  exact tZ_init_11 i a
set_option maxHeartbeats 4000000 in
set_option maxRecDepth 100000 in
theorem tZ_init_9 (i : Nat → Int32) (a : Nat → Nat → Int32) : am_T sZ_init none (wX i a (wZ i0 a0)) 68 [.ref 30] [] (wX i a [.inr (8, [.int 0, .ref 31, .ref 32, .ref 33, .ref 34, .int 0, .int 0, .ref 35, .ref 36, .ref 37, .ref 38, .null, .null, .null, .int 0, .null, .null, .int 0, .int 0, .null, .null, .null, .null, .null, .null, .null, .null, .int 0]), .inl (false, 20, fun _ => 0), .inl (false, 20, fun _ => 0), .inl (false, 20, fun _ => 0), .inl (false, 20, fun _ => 0), .inl (false, 20, fun _ => 0), .inl (false, 20, fun _ => 0), .inl (false, 20, fun _ => 0), .inl (false, 20, fun _ => 0)]) 8 160 := by
  refine am_wu_T gdZ_init [4, 12, 20, 28, 36, 44, 52, 60, 68, 76, 84, 92, 101, 110, 118, 126, 134, 142, 149, 156, 163, 170] 50 ?_
  exact tZ_init_10 i a
set_option maxHeartbeats 4000000 in
set_option maxRecDepth 100000 in
theorem tZ_init_8 (i : Nat → Int32) (a : Nat → Nat → Int32) : am_T sZ_init none (wX i a (wZ i0 a0)) 60 [.ref 30] [] (wX i a [.inr (8, [.int 0, .ref 31, .ref 32, .ref 33, .ref 34, .int 0, .int 0, .ref 35, .ref 36, .ref 37, .null, .null, .null, .null, .int 0, .null, .null, .int 0, .int 0, .null, .null, .null, .null, .null, .null, .null, .null, .int 0]), .inl (false, 20, fun _ => 0), .inl (false, 20, fun _ => 0), .inl (false, 20, fun _ => 0), .inl (false, 20, fun _ => 0), .inl (false, 20, fun _ => 0), .inl (false, 20, fun _ => 0), .inl (false, 20, fun _ => 0)]) 7 140 := by
  refine am_wu_T gdZ_init [4, 12, 20, 28, 36, 44, 52, 60, 68, 76, 84, 92, 101, 110, 118, 126, 134, 142, 149, 156, 163, 170] 50 ?_
  exact tZ_init_9 i a
set_option maxHeartbeats 4000000 in
set_option maxRecDepth 100000 in
theorem tZ_init_7 (i : Nat → Int32) (a : Nat → Nat → Int32) : am_T sZ_init none (wX i a (wZ i0 a0)) 52 [.ref 30] [] (wX i a [.inr (8, [.int 0, .ref 31, .ref 32, .ref 33, .ref 34, .int 0, .int 0, .ref 35, .ref 36, .null, .null, .null, .null, .null, .int 0, .null, .null, .int 0, .int 0, .null, .null, .null, .null, .null, .null, .null, .null, .int 0]), .inl (false, 20, fun _ => 0), .inl (false, 20, fun _ => 0), .inl (false, 20, fun _ => 0), .inl (false, 20, fun _ => 0), .inl (false, 20, fun _ => 0), .inl (false, 20, fun _ => 0)]) 6 120 := by
  refine am_wu_T gdZ_init [4, 12, 20, 28, 36, 44, 52, 60, 68, 76, 84, 92, 101, 110, 118, 126, 134, 142, 149, 156, 163, 170] 50 ?_
  exact tZ_init_8 i a
set_option maxHeartbeats 4000000 in
set_option maxRecDepth 100000 in
theorem tZ_init_6 (i : Nat → Int32) (a : Nat → Nat → Int32) : am_T sZ_init none (wX i a (wZ i0 a0)) 44 [.ref 30] [] (wX i a [.inr (8, [.int 0, .ref 31, .ref 32, .ref 33, .ref 34, .int 0, .int 0, .ref 35, .null, .null, .null, .null, .null, .null, .int 0, .null, .null, .int 0, .int 0, .null, .null, .null, .null, .null, .null, .null, .null, .int 0]), .inl (false, 20, fun _ => 0), .inl (false, 20, fun _ => 0), .inl (false, 20, fun _ => 0), .inl (false, 20, fun _ => 0), .inl (false, 20, fun _ => 0)]) 5 100 := by
  refine am_wu_T gdZ_init [4, 12, 20, 28, 36, 44, 52, 60, 68, 76, 84, 92, 101, 110, 118, 126, 134, 142, 149, 156, 163, 170] 50 ?_
  exact tZ_init_7 i a
set_option maxHeartbeats 4000000 in
set_option maxRecDepth 100000 in
theorem tZ_init_5 (i : Nat → Int32) (a : Nat → Nat → Int32) : am_T sZ_init none (wX i a (wZ i0 a0)) 36 [.ref 30] [] (wX i a [.inr (8, [.int 0, .ref 31, .ref 32, .ref 33, .ref 34, .int 0, .int 0, .null, .null, .null, .null, .null, .null, .null, .int 0, .null, .null, .int 0, .int 0, .null, .null, .null, .null, .null, .null, .null, .null, .int 0]), .inl (false, 20, fun _ => 0), .inl (false, 20, fun _ => 0), .inl (false, 20, fun _ => 0), .inl (false, 20, fun _ => 0)]) 4 80 := by
  refine am_wu_T gdZ_init [4, 12, 20, 28, 36, 44, 52, 60, 68, 76, 84, 92, 101, 110, 118, 126, 134, 142, 149, 156, 163, 170] 50 ?_
  exact tZ_init_6 i a
set_option maxHeartbeats 4000000 in
set_option maxRecDepth 100000 in
theorem tZ_init_4 (i : Nat → Int32) (a : Nat → Nat → Int32) : am_T sZ_init none (wX i a (wZ i0 a0)) 28 [.ref 30] [] (wX i a [.inr (8, [.int 0, .ref 31, .ref 32, .ref 33, .null, .int 0, .int 0, .null, .null, .null, .null, .null, .null, .null, .int 0, .null, .null, .int 0, .int 0, .null, .null, .null, .null, .null, .null, .null, .null, .int 0]), .inl (false, 20, fun _ => 0), .inl (false, 20, fun _ => 0), .inl (false, 20, fun _ => 0)]) 3 60 := by
  refine am_wu_T gdZ_init [4, 12, 20, 28, 36, 44, 52, 60, 68, 76, 84, 92, 101, 110, 118, 126, 134, 142, 149, 156, 163, 170] 50 ?_
  exact tZ_init_5 i a
set_option maxHeartbeats 4000000 in
set_option maxRecDepth 100000 in
theorem tZ_init_3 (i : Nat → Int32) (a : Nat → Nat → Int32) : am_T sZ_init none (wX i a (wZ i0 a0)) 20 [.ref 30] [] (wX i a [.inr (8, [.int 0, .ref 31, .ref 32, .null, .null, .int 0, .int 0, .null, .null, .null, .null, .null, .null, .null, .int 0, .null, .null, .int 0, .int 0, .null, .null, .null, .null, .null, .null, .null, .null, .int 0]), .inl (false, 20, fun _ => 0), .inl (false, 20, fun _ => 0)]) 2 40 := by
  refine am_wu_T gdZ_init [4, 12, 20, 28, 36, 44, 52, 60, 68, 76, 84, 92, 101, 110, 118, 126, 134, 142, 149, 156, 163, 170] 50 ?_
  exact tZ_init_4 i a
set_option maxHeartbeats 4000000 in
set_option maxRecDepth 100000 in
theorem tZ_init_2 (i : Nat → Int32) (a : Nat → Nat → Int32) : am_T sZ_init none (wX i a (wZ i0 a0)) 12 [.ref 30] [] (wX i a [.inr (8, [.int 0, .ref 31, .null, .null, .null, .int 0, .int 0, .null, .null, .null, .null, .null, .null, .null, .int 0, .null, .null, .int 0, .int 0, .null, .null, .null, .null, .null, .null, .null, .null, .int 0]), .inl (false, 20, fun _ => 0)]) 1 20 := by
  refine am_wu_T gdZ_init [4, 12, 20, 28, 36, 44, 52, 60, 68, 76, 84, 92, 101, 110, 118, 126, 134, 142, 149, 156, 163, 170] 50 ?_
  exact tZ_init_3 i a
set_option maxHeartbeats 4000000 in
set_option maxRecDepth 100000 in
theorem tZ_init_1 (i : Nat → Int32) (a : Nat → Nat → Int32) : am_T sZ_init none (wX i a (wZ i0 a0)) 4 [.ref 30] [] (wX i a [.inr (8, [.int 0, .null, .null, .null, .null, .int 0, .int 0, .null, .null, .null, .null, .null, .null, .null, .int 0, .null, .null, .int 0, .int 0, .null, .null, .null, .null, .null, .null, .null, .null, .int 0])]) 0 0 := by
  refine am_wu_T gdZ_init [4, 12, 20, 28, 36, 44, 52, 60, 68, 76, 84, 92, 101, 110, 118, 126, 134, 142, 149, 156, 163, 170] 50 ?_
  exact tZ_init_2 i a
set_option maxHeartbeats 4000000 in
set_option maxRecDepth 100000 in
theorem tZ_init_0 (i : Nat → Int32) (a : Nat → Nat → Int32) : am_T sZ_init none (wX i a (wZ i0 a0)) 0 [.ref 30] [] (wX i a [.inr (8, [.int 0, .null, .null, .null, .null, .int 0, .int 0, .null, .null, .null, .null, .null, .null, .null, .int 0, .null, .null, .int 0, .int 0, .null, .null, .null, .null, .null, .null, .null, .null, .int 0])]) 0 0 := by
  refine am_wu_T gdZ_init [4, 12, 20, 28, 36, 44, 52, 60, 68, 76, 84, 92, 101, 110, 118, 126, 134, 142, 149, 156, 163, 170] 50 ?_
  exact tZ_init_1 i a
theorem eZ_init (i : Nat → Int32) (a : Nat → Nat → Int32) : am_Ev sZ_init [.ref 30] (wX i a [.inr (8, am_df 8)]) none (wX i a (wZ i0 a0)) := am_Ev_of cwZ_init rfl rfl rfl (tZ_init_0 i a)

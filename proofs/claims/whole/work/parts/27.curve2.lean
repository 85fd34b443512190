def f_X4_step  (M : mm_M) : mm_M :=
  let M_1 := f_X4_subtract 22 17 18 M
  let M_2 := f_X4_add 21 17 18 M_1
  let M_3 := f_X4_add 17 19 20 M_2
  let M_4 := f_X4_subtract 20 19 20 M_3
  let M_5 := f_X4_multiplyLimbs 19 20 21 M_4
  let M_6 := f_X4_multiplyLimbs 20 17 22 M_5
  let M_7 := f_X4_multiplyLimbs 21 21 21 M_6
  let M_8 := f_X4_multiplyLimbs 22 22 22 M_7
  let M_9 := f_X4_multiplyLimbs 17 21 22 M_8
  let M_10 := f_X4_subtract 22 21 22 M_9
  let M_11 := f_X4_scale 18 22 (121665) M_10
  let M_12 := f_X4_add 18 18 21 M_11
  let M_13 := f_X4_multiplyLimbs 18 18 22 M_12
  let M_14 := f_X4_add 21 19 20 M_13
  let M_15 := f_X4_subtract 20 19 20 M_14
  let M_16 := f_X4_multiplyLimbs 19 21 21 M_15
  let M_17 := f_X4_multiplyLimbs 20 20 20 M_16
  let M_18 := f_X4_multiplyLimbs 20 20 16 M_17
  M_18
theorem w_f_X4_step  (M : mm_M) : mm_fr [22, 21, 17, 20, 19, 18] M (f_X4_step  M) := by
  unfold f_X4_step
  exact ((w_f_X4_multiplyLimbs _ _ _ _).on (by simp) ((w_f_X4_multiplyLimbs _ _ _ _).on (by simp) ((w_f_X4_multiplyLimbs _ _ _ _).on (by simp) ((w_f_X4_subtract _ _ _ _).on (by simp) ((w_f_X4_add _ _ _ _).on (by simp) ((w_f_X4_multiplyLimbs _ _ _ _).on (by simp) ((w_f_X4_add _ _ _ _).on (by simp) ((w_f_X4_scale _ _ _ _).on (by simp) ((w_f_X4_subtract _ _ _ _).on (by simp) ((w_f_X4_multiplyLimbs _ _ _ _).on (by simp) ((w_f_X4_multiplyLimbs _ _ _ _).on (by simp) ((w_f_X4_multiplyLimbs _ _ _ _).on (by simp) ((w_f_X4_multiplyLimbs _ _ _ _).on (by simp) ((w_f_X4_multiplyLimbs _ _ _ _).on (by simp) ((w_f_X4_subtract _ _ _ _).on (by simp) ((w_f_X4_add _ _ _ _).on (by simp) ((w_f_X4_add _ _ _ _).on (by simp) ((w_f_X4_subtract _ _ _ _).on (by simp) (mm_fr_refl _ _)))))))))))))))))))
set_option maxHeartbeats 4000000 in
set_option maxRecDepth 100000 in
theorem c_X4_step (l : Launch) (D : va_G) (b0 : Nat) (r : Nat → Nat) (M : mm_M)   : mm_Mv l yX4_step cX4_step 1 2 117 D b0 r [.ref (r (13))] M (fun M' => M' = f_X4_step  M) := by
  refine mm_enter (cc := cX4_step) (nL := 1) (ret := none) (by decide) (Nat.le_of_ble_eq_true rfl) ?_
  intro p e s m args below meth c C w ls hl
  have hl : lv_has ls 1 [(0, .ref (r (13)))] := hl
  refine lv_aload_n C.1 C.2.1 dX4_step_0 rfl (lv_at hl 0 rfl) ?_
  refine m_get C w (k := 13) (j := 8) (v := .ref (r (22))) flX4_37 (by decide) rfl rfl dX4_step_1 ?_
  refine lv_aload_n C.1 C.2.1 dX4_step_4 rfl (lv_at hl 0 rfl) ?_
  refine m_get C w (k := 13) (j := 3) (v := .ref (r (17))) flX4_22 (by decide) rfl rfl dX4_step_5 ?_
  refine lv_aload_n C.1 C.2.1 dX4_step_8 rfl (lv_at hl 0 rfl) ?_
  refine m_get C w (k := 13) (j := 4) (v := .ref (r (18))) flX4_25 (by decide) rfl rfl dX4_step_9 ?_
  refine m_csv C w hl csX4_100 (As := [.ref (r (22)), .ref (r (17)), .ref (r (18))]) (rest := []) (c_X4_subtract l D b0 r M 22 17 18 (by decide) rfl (by decide) (by omega) (by decide) rfl (by decide) (by omega) (by decide) rfl (by decide) (by omega)) rfl rfl (Nat.le_of_ble_eq_true rfl) ⟨Nat.le_of_ble_eq_true rfl, Nat.le_of_ble_eq_true rfl⟩ ⟨Nat.zero_le _, Nat.zero_le _⟩ dX4_step_12 (fun M_1 H locs eM_1 w => ?_)
  refine lv_aload_n C.1 C.2.1 dX4_step_15 rfl (lv_at hl 0 rfl) ?_
  refine m_get C w (k := 13) (j := 7) (v := .ref (r (21))) flX4_34 (by decide) rfl rfl dX4_step_16 ?_
  refine lv_aload_n C.1 C.2.1 dX4_step_19 rfl (lv_at hl 0 rfl) ?_
  refine m_get C w (k := 13) (j := 3) (v := .ref (r (17))) flX4_22 (by decide) rfl rfl dX4_step_20 ?_
  refine lv_aload_n C.1 C.2.1 dX4_step_23 rfl (lv_at hl 0 rfl) ?_
  refine m_get C w (k := 13) (j := 4) (v := .ref (r (18))) flX4_25 (by decide) rfl rfl dX4_step_24 ?_
  refine m_csv C w hl csX4_103 (As := [.ref (r (21)), .ref (r (17)), .ref (r (18))]) (rest := []) (c_X4_add l D b0 r M_1 21 17 18 (by decide) rfl (by decide) (by omega) (by decide) rfl (by decide) (by omega) (by decide) rfl (by decide) (by omega)) rfl rfl (Nat.le_of_ble_eq_true rfl) ⟨Nat.le_of_ble_eq_true rfl, Nat.le_of_ble_eq_true rfl⟩ ⟨Nat.zero_le _, Nat.zero_le _⟩ dX4_step_27 (fun M_2 H locs eM_2 w => ?_)
  refine lv_aload_n C.1 C.2.1 dX4_step_30 rfl (lv_at hl 0 rfl) ?_
  refine m_get C w (k := 13) (j := 3) (v := .ref (r (17))) flX4_22 (by decide) rfl rfl dX4_step_31 ?_
  refine lv_aload_n C.1 C.2.1 dX4_step_34 rfl (lv_at hl 0 rfl) ?_
  refine m_get C w (k := 13) (j := 5) (v := .ref (r (19))) flX4_28 (by decide) rfl rfl dX4_step_35 ?_
  refine lv_aload_n C.1 C.2.1 dX4_step_38 rfl (lv_at hl 0 rfl) ?_
  refine m_get C w (k := 13) (j := 6) (v := .ref (r (20))) flX4_31 (by decide) rfl rfl dX4_step_39 ?_
  refine m_csv C w hl csX4_103 (As := [.ref (r (17)), .ref (r (19)), .ref (r (20))]) (rest := []) (c_X4_add l D b0 r M_2 17 19 20 (by decide) rfl (by decide) (by omega) (by decide) rfl (by decide) (by omega) (by decide) rfl (by decide) (by omega)) rfl rfl (Nat.le_of_ble_eq_true rfl) ⟨Nat.le_of_ble_eq_true rfl, Nat.le_of_ble_eq_true rfl⟩ ⟨Nat.zero_le _, Nat.zero_le _⟩ dX4_step_42 (fun M_3 H locs eM_3 w => ?_)
  refine lv_aload_n C.1 C.2.1 dX4_step_45 rfl (lv_at hl 0 rfl) ?_
  refine m_get C w (k := 13) (j := 6) (v := .ref (r (20))) flX4_31 (by decide) rfl rfl dX4_step_46 ?_
  refine lv_aload_n C.1 C.2.1 dX4_step_49 rfl (lv_at hl 0 rfl) ?_
  refine m_get C w (k := 13) (j := 5) (v := .ref (r (19))) flX4_28 (by decide) rfl rfl dX4_step_50 ?_
  refine lv_aload_n C.1 C.2.1 dX4_step_53 rfl (lv_at hl 0 rfl) ?_
  refine m_get C w (k := 13) (j := 6) (v := .ref (r (20))) flX4_31 (by decide) rfl rfl dX4_step_54 ?_
  refine m_csv C w hl csX4_100 (As := [.ref (r (20)), .ref (r (19)), .ref (r (20))]) (rest := []) (c_X4_subtract l D b0 r M_3 20 19 20 (by decide) rfl (by decide) (by omega) (by decide) rfl (by decide) (by omega) (by decide) rfl (by decide) (by omega)) rfl rfl (Nat.le_of_ble_eq_true rfl) ⟨Nat.le_of_ble_eq_true rfl, Nat.le_of_ble_eq_true rfl⟩ ⟨Nat.zero_le _, Nat.zero_le _⟩ dX4_step_57 (fun M_4 H locs eM_4 w => ?_)
  refine lv_aload_n C.1 C.2.1 dX4_step_60 rfl (lv_at hl 0 rfl) ?_
  refine m_get C w (k := 13) (j := 5) (v := .ref (r (19))) flX4_28 (by decide) rfl rfl dX4_step_61 ?_
  refine lv_aload_n C.1 C.2.1 dX4_step_64 rfl (lv_at hl 0 rfl) ?_
  refine m_get C w (k := 13) (j := 6) (v := .ref (r (20))) flX4_31 (by decide) rfl rfl dX4_step_65 ?_
  refine lv_aload_n C.1 C.2.1 dX4_step_68 rfl (lv_at hl 0 rfl) ?_
  refine m_get C w (k := 13) (j := 7) (v := .ref (r (21))) flX4_34 (by decide) rfl rfl dX4_step_69 ?_
  refine m_csv C w hl csX4_61 (As := [.ref (r (19)), .ref (r (20)), .ref (r (21))]) (rest := []) (c_X4_multiplyLimbs l D b0 r M_4 19 20 21 (by decide) rfl (by decide) (by omega) (by decide) rfl (by decide) (by omega) (by decide) rfl (by decide) (by omega)) rfl rfl (Nat.le_of_ble_eq_true rfl) ⟨Nat.le_of_ble_eq_true rfl, Nat.le_of_ble_eq_true rfl⟩ ⟨Nat.zero_le _, Nat.zero_le _⟩ dX4_step_72 (fun M_5 H locs eM_5 w => ?_)
  refine lv_aload_n C.1 C.2.1 dX4_step_75 rfl (lv_at hl 0 rfl) ?_
  refine m_get C w (k := 13) (j := 6) (v := .ref (r (20))) flX4_31 (by decide) rfl rfl dX4_step_76 ?_
  refine lv_aload_n C.1 C.2.1 dX4_step_79 rfl (lv_at hl 0 rfl) ?_
  refine m_get C w (k := 13) (j := 3) (v := .ref (r (17))) flX4_22 (by decide) rfl rfl dX4_step_80 ?_
  refine lv_aload_n C.1 C.2.1 dX4_step_83 rfl (lv_at hl 0 rfl) ?_
  refine m_get C w (k := 13) (j := 8) (v := .ref (r (22))) flX4_37 (by decide) rfl rfl dX4_step_84 ?_
  refine m_csv C w hl csX4_61 (As := [.ref (r (20)), .ref (r (17)), .ref (r (22))]) (rest := []) (c_X4_multiplyLimbs l D b0 r M_5 20 17 22 (by decide) rfl (by decide) (by omega) (by decide) rfl (by decide) (by omega) (by decide) rfl (by decide) (by omega)) rfl rfl (Nat.le_of_ble_eq_true rfl) ⟨Nat.le_of_ble_eq_true rfl, Nat.le_of_ble_eq_true rfl⟩ ⟨Nat.zero_le _, Nat.zero_le _⟩ dX4_step_87 (fun M_6 H locs eM_6 w => ?_)
  refine lv_aload_n C.1 C.2.1 dX4_step_90 rfl (lv_at hl 0 rfl) ?_
  refine m_get C w (k := 13) (j := 7) (v := .ref (r (21))) flX4_34 (by decide) rfl rfl dX4_step_91 ?_
  refine lv_aload_n C.1 C.2.1 dX4_step_94 rfl (lv_at hl 0 rfl) ?_
  refine m_get C w (k := 13) (j := 7) (v := .ref (r (21))) flX4_34 (by decide) rfl rfl dX4_step_95 ?_
  refine lv_aload_n C.1 C.2.1 dX4_step_98 rfl (lv_at hl 0 rfl) ?_
  refine m_get C w (k := 13) (j := 7) (v := .ref (r (21))) flX4_34 (by decide) rfl rfl dX4_step_99 ?_
  refine m_csv C w hl csX4_61 (As := [.ref (r (21)), .ref (r (21)), .ref (r (21))]) (rest := []) (c_X4_multiplyLimbs l D b0 r M_6 21 21 21 (by decide) rfl (by decide) (by omega) (by decide) rfl (by decide) (by omega) (by decide) rfl (by decide) (by omega)) rfl rfl (Nat.le_of_ble_eq_true rfl) ⟨Nat.le_of_ble_eq_true rfl, Nat.le_of_ble_eq_true rfl⟩ ⟨Nat.zero_le _, Nat.zero_le _⟩ dX4_step_102 (fun M_7 H locs eM_7 w => ?_)
  refine lv_aload_n C.1 C.2.1 dX4_step_105 rfl (lv_at hl 0 rfl) ?_
  refine m_get C w (k := 13) (j := 8) (v := .ref (r (22))) flX4_37 (by decide) rfl rfl dX4_step_106 ?_
  refine lv_aload_n C.1 C.2.1 dX4_step_109 rfl (lv_at hl 0 rfl) ?_
  refine m_get C w (k := 13) (j := 8) (v := .ref (r (22))) flX4_37 (by decide) rfl rfl dX4_step_110 ?_
  refine lv_aload_n C.1 C.2.1 dX4_step_113 rfl (lv_at hl 0 rfl) ?_
  refine m_get C w (k := 13) (j := 8) (v := .ref (r (22))) flX4_37 (by decide) rfl rfl dX4_step_114 ?_
  refine m_csv C w hl csX4_61 (As := [.ref (r (22)), .ref (r (22)), .ref (r (22))]) (rest := []) (c_X4_multiplyLimbs l D b0 r M_7 22 22 22 (by decide) rfl (by decide) (by omega) (by decide) rfl (by decide) (by omega) (by decide) rfl (by decide) (by omega)) rfl rfl (Nat.le_of_ble_eq_true rfl) ⟨Nat.le_of_ble_eq_true rfl, Nat.le_of_ble_eq_true rfl⟩ ⟨Nat.zero_le _, Nat.zero_le _⟩ dX4_step_117 (fun M_8 H locs eM_8 w => ?_)
  refine lv_aload_n C.1 C.2.1 dX4_step_120 rfl (lv_at hl 0 rfl) ?_
  refine m_get C w (k := 13) (j := 3) (v := .ref (r (17))) flX4_22 (by decide) rfl rfl dX4_step_121 ?_
  refine lv_aload_n C.1 C.2.1 dX4_step_124 rfl (lv_at hl 0 rfl) ?_
  refine m_get C w (k := 13) (j := 7) (v := .ref (r (21))) flX4_34 (by decide) rfl rfl dX4_step_125 ?_
  refine lv_aload_n C.1 C.2.1 dX4_step_128 rfl (lv_at hl 0 rfl) ?_
  refine m_get C w (k := 13) (j := 8) (v := .ref (r (22))) flX4_37 (by decide) rfl rfl dX4_step_129 ?_
  refine m_csv C w hl csX4_61 (As := [.ref (r (17)), .ref (r (21)), .ref (r (22))]) (rest := []) (c_X4_multiplyLimbs l D b0 r M_8 17 21 22 (by decide) rfl (by decide) (by omega) (by decide) rfl (by decide) (by omega) (by decide) rfl (by decide) (by omega)) rfl rfl (Nat.le_of_ble_eq_true rfl) ⟨Nat.le_of_ble_eq_true rfl, Nat.le_of_ble_eq_true rfl⟩ ⟨Nat.zero_le _, Nat.zero_le _⟩ dX4_step_132 (fun M_9 H locs eM_9 w => ?_)
  refine lv_aload_n C.1 C.2.1 dX4_step_135 rfl (lv_at hl 0 rfl) ?_
  refine m_get C w (k := 13) (j := 8) (v := .ref (r (22))) flX4_37 (by decide) rfl rfl dX4_step_136 ?_
  refine lv_aload_n C.1 C.2.1 dX4_step_139 rfl (lv_at hl 0 rfl) ?_
  refine m_get C w (k := 13) (j := 7) (v := .ref (r (21))) flX4_34 (by decide) rfl rfl dX4_step_140 ?_
  refine lv_aload_n C.1 C.2.1 dX4_step_143 rfl (lv_at hl 0 rfl) ?_
  refine m_get C w (k := 13) (j := 8) (v := .ref (r (22))) flX4_37 (by decide) rfl rfl dX4_step_144 ?_
  refine m_csv C w hl csX4_100 (As := [.ref (r (22)), .ref (r (21)), .ref (r (22))]) (rest := []) (c_X4_subtract l D b0 r M_9 22 21 22 (by decide) rfl (by decide) (by omega) (by decide) rfl (by decide) (by omega) (by decide) rfl (by decide) (by omega)) rfl rfl (Nat.le_of_ble_eq_true rfl) ⟨Nat.le_of_ble_eq_true rfl, Nat.le_of_ble_eq_true rfl⟩ ⟨Nat.zero_le _, Nat.zero_le _⟩ dX4_step_147 (fun M_10 H locs eM_10 w => ?_)
  refine lv_aload_n C.1 C.2.1 dX4_step_150 rfl (lv_at hl 0 rfl) ?_
  refine m_get C w (k := 13) (j := 4) (v := .ref (r (18))) flX4_25 (by decide) rfl rfl dX4_step_151 ?_
  refine lv_aload_n C.1 C.2.1 dX4_step_154 rfl (lv_at hl 0 rfl) ?_
  refine m_get C w (k := 13) (j := 8) (v := .ref (r (22))) flX4_37 (by decide) rfl rfl dX4_step_155 ?_
  refine lv_ldc2 (v := (121665)) C.1 C.2.1 C.2.2.2.1 (C.2.2.2.2.1 _ klX4_106) dX4_step_158 ?_
  refine m_csv C w hl csX4_108 (As := [.ref (r (18)), .ref (r (22)), .long (121665)]) (rest := []) (c_X4_scale l D b0 r M_10 18 22 (121665) (by decide) rfl (by decide) (by omega) (by decide) rfl (by decide) (by omega)) rfl rfl (Nat.le_of_ble_eq_true rfl) ⟨Nat.le_of_ble_eq_true rfl, Nat.le_of_ble_eq_true rfl⟩ ⟨Nat.zero_le _, Nat.zero_le _⟩ dX4_step_161 (fun M_11 H locs eM_11 w => ?_)
  refine lv_aload_n C.1 C.2.1 dX4_step_164 rfl (lv_at hl 0 rfl) ?_
  refine m_get C w (k := 13) (j := 4) (v := .ref (r (18))) flX4_25 (by decide) rfl rfl dX4_step_165 ?_
  refine lv_aload_n C.1 C.2.1 dX4_step_168 rfl (lv_at hl 0 rfl) ?_
  refine m_get C w (k := 13) (j := 4) (v := .ref (r (18))) flX4_25 (by decide) rfl rfl dX4_step_169 ?_
  refine lv_aload_n C.1 C.2.1 dX4_step_172 rfl (lv_at hl 0 rfl) ?_
  refine m_get C w (k := 13) (j := 7) (v := .ref (r (21))) flX4_34 (by decide) rfl rfl dX4_step_173 ?_
  refine m_csv C w hl csX4_103 (As := [.ref (r (18)), .ref (r (18)), .ref (r (21))]) (rest := []) (c_X4_add l D b0 r M_11 18 18 21 (by decide) rfl (by decide) (by omega) (by decide) rfl (by decide) (by omega) (by decide) rfl (by decide) (by omega)) rfl rfl (Nat.le_of_ble_eq_true rfl) ⟨Nat.le_of_ble_eq_true rfl, Nat.le_of_ble_eq_true rfl⟩ ⟨Nat.zero_le _, Nat.zero_le _⟩ dX4_step_176 (fun M_12 H locs eM_12 w => ?_)
  refine lv_aload_n C.1 C.2.1 dX4_step_179 rfl (lv_at hl 0 rfl) ?_
  refine m_get C w (k := 13) (j := 4) (v := .ref (r (18))) flX4_25 (by decide) rfl rfl dX4_step_180 ?_
  refine lv_aload_n C.1 C.2.1 dX4_step_183 rfl (lv_at hl 0 rfl) ?_
  refine m_get C w (k := 13) (j := 4) (v := .ref (r (18))) flX4_25 (by decide) rfl rfl dX4_step_184 ?_
  refine lv_aload_n C.1 C.2.1 dX4_step_187 rfl (lv_at hl 0 rfl) ?_
  refine m_get C w (k := 13) (j := 8) (v := .ref (r (22))) flX4_37 (by decide) rfl rfl dX4_step_188 ?_
  refine m_csv C w hl csX4_61 (As := [.ref (r (18)), .ref (r (18)), .ref (r (22))]) (rest := []) (c_X4_multiplyLimbs l D b0 r M_12 18 18 22 (by decide) rfl (by decide) (by omega) (by decide) rfl (by decide) (by omega) (by decide) rfl (by decide) (by omega)) rfl rfl (Nat.le_of_ble_eq_true rfl) ⟨Nat.le_of_ble_eq_true rfl, Nat.le_of_ble_eq_true rfl⟩ ⟨Nat.zero_le _, Nat.zero_le _⟩ dX4_step_191 (fun M_13 H locs eM_13 w => ?_)
  refine lv_aload_n C.1 C.2.1 dX4_step_194 rfl (lv_at hl 0 rfl) ?_
  refine m_get C w (k := 13) (j := 7) (v := .ref (r (21))) flX4_34 (by decide) rfl rfl dX4_step_195 ?_
  refine lv_aload_n C.1 C.2.1 dX4_step_198 rfl (lv_at hl 0 rfl) ?_
  refine m_get C w (k := 13) (j := 5) (v := .ref (r (19))) flX4_28 (by decide) rfl rfl dX4_step_199 ?_
  refine lv_aload_n C.1 C.2.1 dX4_step_202 rfl (lv_at hl 0 rfl) ?_
  refine m_get C w (k := 13) (j := 6) (v := .ref (r (20))) flX4_31 (by decide) rfl rfl dX4_step_203 ?_
  refine m_csv C w hl csX4_103 (As := [.ref (r (21)), .ref (r (19)), .ref (r (20))]) (rest := []) (c_X4_add l D b0 r M_13 21 19 20 (by decide) rfl (by decide) (by omega) (by decide) rfl (by decide) (by omega) (by decide) rfl (by decide) (by omega)) rfl rfl (Nat.le_of_ble_eq_true rfl) ⟨Nat.le_of_ble_eq_true rfl, Nat.le_of_ble_eq_true rfl⟩ ⟨Nat.zero_le _, Nat.zero_le _⟩ dX4_step_206 (fun M_14 H locs eM_14 w => ?_)
  refine lv_aload_n C.1 C.2.1 dX4_step_209 rfl (lv_at hl 0 rfl) ?_
  refine m_get C w (k := 13) (j := 6) (v := .ref (r (20))) flX4_31 (by decide) rfl rfl dX4_step_210 ?_
  refine lv_aload_n C.1 C.2.1 dX4_step_213 rfl (lv_at hl 0 rfl) ?_
  refine m_get C w (k := 13) (j := 5) (v := .ref (r (19))) flX4_28 (by decide) rfl rfl dX4_step_214 ?_
  refine lv_aload_n C.1 C.2.1 dX4_step_217 rfl (lv_at hl 0 rfl) ?_
  refine m_get C w (k := 13) (j := 6) (v := .ref (r (20))) flX4_31 (by decide) rfl rfl dX4_step_218 ?_
  refine m_csv C w hl csX4_100 (As := [.ref (r (20)), .ref (r (19)), .ref (r (20))]) (rest := []) (c_X4_subtract l D b0 r M_14 20 19 20 (by decide) rfl (by decide) (by omega) (by decide) rfl (by decide) (by omega) (by decide) rfl (by decide) (by omega)) rfl rfl (Nat.le_of_ble_eq_true rfl) ⟨Nat.le_of_ble_eq_true rfl, Nat.le_of_ble_eq_true rfl⟩ ⟨Nat.zero_le _, Nat.zero_le _⟩ dX4_step_221 (fun M_15 H locs eM_15 w => ?_)
  refine lv_aload_n C.1 C.2.1 dX4_step_224 rfl (lv_at hl 0 rfl) ?_
  refine m_get C w (k := 13) (j := 5) (v := .ref (r (19))) flX4_28 (by decide) rfl rfl dX4_step_225 ?_
  refine lv_aload_n C.1 C.2.1 dX4_step_228 rfl (lv_at hl 0 rfl) ?_
  refine m_get C w (k := 13) (j := 7) (v := .ref (r (21))) flX4_34 (by decide) rfl rfl dX4_step_229 ?_
  refine lv_aload_n C.1 C.2.1 dX4_step_232 rfl (lv_at hl 0 rfl) ?_
  refine m_get C w (k := 13) (j := 7) (v := .ref (r (21))) flX4_34 (by decide) rfl rfl dX4_step_233 ?_
  refine m_csv C w hl csX4_61 (As := [.ref (r (19)), .ref (r (21)), .ref (r (21))]) (rest := []) (c_X4_multiplyLimbs l D b0 r M_15 19 21 21 (by decide) rfl (by decide) (by omega) (by decide) rfl (by decide) (by omega) (by decide) rfl (by decide) (by omega)) rfl rfl (Nat.le_of_ble_eq_true rfl) ⟨Nat.le_of_ble_eq_true rfl, Nat.le_of_ble_eq_true rfl⟩ ⟨Nat.zero_le _, Nat.zero_le _⟩ dX4_step_236 (fun M_16 H locs eM_16 w => ?_)
  refine lv_aload_n C.1 C.2.1 dX4_step_239 rfl (lv_at hl 0 rfl) ?_
  refine m_get C w (k := 13) (j := 6) (v := .ref (r (20))) flX4_31 (by decide) rfl rfl dX4_step_240 ?_
  refine lv_aload_n C.1 C.2.1 dX4_step_243 rfl (lv_at hl 0 rfl) ?_
  refine m_get C w (k := 13) (j := 6) (v := .ref (r (20))) flX4_31 (by decide) rfl rfl dX4_step_244 ?_
  refine lv_aload_n C.1 C.2.1 dX4_step_247 rfl (lv_at hl 0 rfl) ?_
  refine m_get C w (k := 13) (j := 6) (v := .ref (r (20))) flX4_31 (by decide) rfl rfl dX4_step_248 ?_
  refine m_csv C w hl csX4_61 (As := [.ref (r (20)), .ref (r (20)), .ref (r (20))]) (rest := []) (c_X4_multiplyLimbs l D b0 r M_16 20 20 20 (by decide) rfl (by decide) (by omega) (by decide) rfl (by decide) (by omega) (by decide) rfl (by decide) (by omega)) rfl rfl (Nat.le_of_ble_eq_true rfl) ⟨Nat.le_of_ble_eq_true rfl, Nat.le_of_ble_eq_true rfl⟩ ⟨Nat.zero_le _, Nat.zero_le _⟩ dX4_step_251 (fun M_17 H locs eM_17 w => ?_)
  refine lv_aload_n C.1 C.2.1 dX4_step_254 rfl (lv_at hl 0 rfl) ?_
  refine m_get C w (k := 13) (j := 6) (v := .ref (r (20))) flX4_31 (by decide) rfl rfl dX4_step_255 ?_
  refine lv_aload_n C.1 C.2.1 dX4_step_258 rfl (lv_at hl 0 rfl) ?_
  refine m_get C w (k := 13) (j := 6) (v := .ref (r (20))) flX4_31 (by decide) rfl rfl dX4_step_259 ?_
  refine lv_aload_n C.1 C.2.1 dX4_step_262 rfl (lv_at hl 0 rfl) ?_
  refine m_get C w (k := 13) (j := 2) (v := .ref (r (16))) flX4_18 (by decide) rfl rfl dX4_step_263 ?_
  refine m_csv C w hl csX4_61 (As := [.ref (r (20)), .ref (r (20)), .ref (r (16))]) (rest := []) (c_X4_multiplyLimbs l D b0 r M_17 20 20 16 (by decide) rfl (by decide) (by omega) (by decide) rfl (by decide) (by omega) (by decide) rfl (by decide) (by omega)) rfl rfl (Nat.le_of_ble_eq_true rfl) ⟨Nat.le_of_ble_eq_true rfl, Nat.le_of_ble_eq_true rfl⟩ ⟨Nat.zero_le _, Nat.zero_le _⟩ dX4_step_266 (fun M_18 H locs eM_18 w => ?_)
  exact m_vret C w (by subst eM_1 eM_2 eM_3 eM_4 eM_5 eM_6 eM_7 eM_8 eM_9 eM_10 eM_11 eM_12 eM_13 eM_14 eM_15 eM_16 eM_17 eM_18; exact Eq.symm (rfl)) dX4_step_269

def f_X4_climb_L45  (σ : mm_M × Int32) : Nat → mm_M × Int32
  | 0 => σ
  | t + 1 =>
  let M_10 := (f_X4_climb_L45 σ t).1
  let y_11 := (f_X4_climb_L45 σ t).2
  let x3_13 := ((M_10.1 14 ((254 - t) / 8)) >>> ((nI ((254 - t) % 8)) &&& 31)) &&& (1 : Int32)
  let M_14 := f_X4_swapIf ((y_11) ^^^ (x3_13)) 17 19 M_10
  let M_15 := f_X4_swapIf ((y_11) ^^^ (x3_13)) 18 20 M_14
  let M_16 := f_X4_step M_15
  (M_16, (x3_13))
theorem w_f_X4_climb_L45  (σ : mm_M × Int32) : ∀ t : Nat, mm_fr1 [17, 19, 18, 20, 22, 21] σ.1 (f_X4_climb_L45 σ t)
  | 0 => mm_fr_refl _ _
  | t + 1 => have ih := (w_f_X4_climb_L45 σ t).m
    ((w_f_X4_step _).on (by simp) ((w_f_X4_swapIf _ _ _ _).on (by simp) ((w_f_X4_swapIf _ _ _ _).on (by simp) ih))).a
def f_X4_climb  (M : mm_M) : mm_M :=
  let M_1 := f_X4_setSmall 17 (1 : Int32) M
  let M_2 := f_X4_setSmall 18 (0 : Int32) M_1
  let M_3 := mm_cpl M_2 16 0 19 0 10
  let M_4 := f_X4_setSmall 20 (1 : Int32) M_3
  let M_5 := (f_X4_climb_L45 (M_4, (0 : Int32)) 255).1
  let y_6 := (f_X4_climb_L45 (M_4, (0 : Int32)) 255).2
  let M_8 := f_X4_swapIf (y_6) 17 19 M_5
  let M_9 := f_X4_swapIf (y_6) 18 20 M_8
  M_9
theorem w_f_X4_climb  (M : mm_M) : mm_fr [17, 18, 19, 20, 22, 21] M (f_X4_climb  M) := by
  unfold f_X4_climb
  exact ((w_f_X4_swapIf _ _ _ _).on (by simp) ((w_f_X4_swapIf _ _ _ _).on (by simp) ((w_f_X4_climb_L45 _ 255).m.on (by simp) ((w_f_X4_setSmall _ _ _).on (by simp) (mm_fr_cpl (by simp) ((w_f_X4_setSmall _ _ _).on (by simp) ((w_f_X4_setSmall _ _ _).on (by simp) (mm_fr_refl _ _))))))))
set_option maxHeartbeats 4000000 in
set_option maxRecDepth 100000 in
theorem c_X4_climb (l : Launch) (D : va_G) (b0 : Nat) (r : Nat → Nat) (M : mm_M)   : mm_Mv l yX4_climb cX4_climb 4 3 137 D b0 r [.ref (r (13))] M (fun M' => M' = f_X4_climb  M) := by
  refine mm_enter (cc := cX4_climb) (nL := 4) (ret := none) (by decide) (Nat.le_of_ble_eq_true rfl) ?_
  intro p e s m args below meth c C w ls hl
  have hl : lv_has ls 4 [(0, .ref (r (13)))] := hl
  refine lv_aload_n C.1 C.2.1 dX4_climb_0 rfl (lv_at hl 0 rfl) ?_
  refine m_get C w (k := 13) (j := 3) (v := .ref (r (17))) flX4_22 (by decide) rfl rfl dX4_climb_1 ?_
  refine lv_iconst (v := 1) C.1 C.2.1 dX4_climb_4 (by decide) ?_
  refine m_csv C w hl csX4_89 (As := [.ref (r (17)), .int 1]) (rest := []) (c_X4_setSmall l D b0 r M 17 (1 : Int32) (by decide) rfl (by decide) (by omega)) rfl rfl (Nat.le_of_ble_eq_true rfl) ⟨Nat.le_of_ble_eq_true rfl, Nat.le_of_ble_eq_true rfl⟩ ⟨Nat.zero_le _, Nat.zero_le _⟩ dX4_climb_5 (fun M_1 H locs eM_1 w => ?_)
  refine lv_aload_n C.1 C.2.1 dX4_climb_8 rfl (lv_at hl 0 rfl) ?_
  refine m_get C w (k := 13) (j := 4) (v := .ref (r (18))) flX4_25 (by decide) rfl rfl dX4_climb_9 ?_
  refine lv_iconst (v := 0) C.1 C.2.1 dX4_climb_12 (by decide) ?_
  refine m_csv C w hl csX4_89 (As := [.ref (r (18)), .int 0]) (rest := []) (c_X4_setSmall l D b0 r M_1 18 (0 : Int32) (by decide) rfl (by decide) (by omega)) rfl rfl (Nat.le_of_ble_eq_true rfl) ⟨Nat.le_of_ble_eq_true rfl, Nat.le_of_ble_eq_true rfl⟩ ⟨Nat.zero_le _, Nat.zero_le _⟩ dX4_climb_13 (fun M_2 H locs eM_2 w => ?_)
  refine lv_aload_n C.1 C.2.1 dX4_climb_16 rfl (lv_at hl 0 rfl) ?_
  refine m_get C w (k := 13) (j := 2) (v := .ref (r (16))) flX4_18 (by decide) rfl rfl dX4_climb_17 ?_
  refine lv_iconst (v := 0) C.1 C.2.1 dX4_climb_20 (by decide) ?_
  refine lv_aload_n C.1 C.2.1 dX4_climb_21 rfl (lv_at hl 0 rfl) ?_
  refine m_get C w (k := 13) (j := 5) (v := .ref (r (19))) flX4_28 (by decide) rfl rfl dX4_climb_22 ?_
  refine lv_iconst (v := 0) C.1 C.2.1 dX4_climb_25 (by decide) ?_
  refine lv_bipush (v := 10) C.1 C.2.1 dX4_climb_26 (by decide) ?_
  refine m_cpl C w hl (k := 16) (k2 := 19) (sp := 0) (dp := 0) (n := 10) (by decide) rfl (by decide) (by decide) rfl (by decide) acX4_69 (by omega) (by omega) (Nat.le_of_ble_eq_true rfl) (Nat.le_of_ble_eq_true rfl) dX4_climb_28 (fun H locs w => ?_)
  obtain ⟨M_3, eM_3⟩ : ∃ zz, zz = mm_cpl M_2 16 0 19 0 10 := ⟨_, rfl⟩
  rw [← eM_3] at w
  refine lv_aload_n C.1 C.2.1 dX4_climb_31 rfl (lv_at hl 0 rfl) ?_
  refine m_get C w (k := 13) (j := 6) (v := .ref (r (20))) flX4_31 (by decide) rfl rfl dX4_climb_32 ?_
  refine lv_iconst (v := 1) C.1 C.2.1 dX4_climb_35 (by decide) ?_
  refine m_csv C w hl csX4_89 (As := [.ref (r (20)), .int 1]) (rest := []) (c_X4_setSmall l D b0 r M_3 20 (1 : Int32) (by decide) rfl (by decide) (by omega)) rfl rfl (Nat.le_of_ble_eq_true rfl) ⟨Nat.le_of_ble_eq_true rfl, Nat.le_of_ble_eq_true rfl⟩ ⟨Nat.zero_le _, Nat.zero_le _⟩ dX4_climb_36 (fun M_4 H locs eM_4 w => ?_)
  refine lv_iconst (v := 0) C.1 C.2.1 dX4_climb_39 (by decide) ?_
  refine lv_istore_n (lv' := [(1, .int 0), (0, .ref (r (13)))]) C.1 C.2.1 dX4_climb_40 rfl hl (by decide) rfl (fun ls hl => ?_)
  refine lv_sipush (v := 254) C.1 C.2.1 dX4_climb_41 (by decide) ?_
  refine lv_istore_n (lv' := [(2, .int 254), (1, .int 0), (0, .ref (r (13)))]) C.1 C.2.1 dX4_climb_44 rfl hl (by decide) rfl (fun ls hl => ?_)
  have loop : ∀ (k t : Nat), t + k = 255 → ∀ (H : Heap) (locs : List Loc) (ls : Array Slot), mm_W D b0 r ((f_X4_climb_L45 (M_4, (0 : Int32)) t).1) s H locs → lv_has ls 4 [(2, .int (nI (255 - t) - 1)), (1, .int ((f_X4_climb_L45 (M_4, (0 : Int32)) t).2)), (0, .ref (r (13)))] → W p l e (mm_rm 3 137) s m args below meth c H locs 0 0 (MQ below (va_Qv (fun M' => M' = f_X4_climb  M) (mm_U D b0 r) (fun q => b0 ≤ q)) args s 0 0 (fun q => b0 ≤ q)) (F0 m 45 ls []) := by
    intro k
    induction k with
    | zero =>
      intro t ht H locs ls w hl
      obtain rfl : 255 = t := by omega
      obtain ⟨M_5, eM_5⟩ : ∃ zz, zz = (f_X4_climb_L45 (M_4, (0 : Int32)) 255).1 := ⟨_, rfl⟩
      rw [← eM_5] at w
      obtain ⟨y_6, ey_6⟩ : ∃ zz, zz = (f_X4_climb_L45 (M_4, (0 : Int32)) 255).2 := ⟨_, rfl⟩
      rw [← ey_6] at hl
      refine lv_iload_n C.1 C.2.1 dX4_climb_45 rfl (lv_at hl 0 rfl) ?_
      refine lv_if_lt (tgt := 105) C.1 C.2.1 dX4_climb_46 (by decide) (fun _ => ?_) (fun h_7 => absurd h_7 (fun q => q (mm_neg (by omega))))
      refine lv_iload_n C.1 C.2.1 dX4_climb_105 rfl (lv_at hl 1 rfl) ?_
      refine lv_aload_n C.1 C.2.1 dX4_climb_106 rfl (lv_at hl 2 rfl) ?_
      refine m_get C w (k := 13) (j := 3) (v := .ref (r (17))) flX4_22 (by decide) rfl rfl dX4_climb_107 ?_
      refine lv_aload_n C.1 C.2.1 dX4_climb_110 rfl (lv_at hl 2 rfl) ?_
      refine m_get C w (k := 13) (j := 5) (v := .ref (r (19))) flX4_28 (by decide) rfl rfl dX4_climb_111 ?_
      refine m_csv C w hl csX4_93 (As := [.int (y_6), .ref (r (17)), .ref (r (19))]) (rest := []) (c_X4_swapIf l D b0 r M_5 (y_6) 17 19 (by decide) rfl (by decide) (by omega) (by decide) rfl (by decide) (by omega)) rfl rfl (Nat.le_of_ble_eq_true rfl) ⟨Nat.le_of_ble_eq_true rfl, Nat.le_of_ble_eq_true rfl⟩ ⟨Nat.zero_le _, Nat.zero_le _⟩ dX4_climb_114 (fun M_8 H locs eM_8 w => ?_)
      refine lv_iload_n C.1 C.2.1 dX4_climb_117 rfl (lv_at hl 1 rfl) ?_
      refine lv_aload_n C.1 C.2.1 dX4_climb_118 rfl (lv_at hl 2 rfl) ?_
      refine m_get C w (k := 13) (j := 4) (v := .ref (r (18))) flX4_25 (by decide) rfl rfl dX4_climb_119 ?_
      refine lv_aload_n C.1 C.2.1 dX4_climb_122 rfl (lv_at hl 2 rfl) ?_
      refine m_get C w (k := 13) (j := 6) (v := .ref (r (20))) flX4_31 (by decide) rfl rfl dX4_climb_123 ?_
      refine m_csv C w hl csX4_93 (As := [.int (y_6), .ref (r (18)), .ref (r (20))]) (rest := []) (c_X4_swapIf l D b0 r M_8 (y_6) 18 20 (by decide) rfl (by decide) (by omega) (by decide) rfl (by decide) (by omega)) rfl rfl (Nat.le_of_ble_eq_true rfl) ⟨Nat.le_of_ble_eq_true rfl, Nat.le_of_ble_eq_true rfl⟩ ⟨Nat.zero_le _, Nat.zero_le _⟩ dX4_climb_126 (fun M_9 H locs eM_9 w => ?_)
      exact m_vret C w (by subst eM_1 eM_2 eM_3 eM_4 eM_5 ey_6 eM_8 eM_9; exact Eq.symm (rfl)) dX4_climb_129
    | succ k ih =>
      intro t ht H locs ls w hl
      obtain ⟨M_10, eM_10⟩ : ∃ zz, zz = (f_X4_climb_L45 (M_4, (0 : Int32)) t).1 := ⟨_, rfl⟩
      rw [← eM_10] at w
      obtain ⟨y_11, ey_11⟩ : ∃ zz, zz = (f_X4_climb_L45 (M_4, (0 : Int32)) t).2 := ⟨_, rfl⟩
      rw [← ey_11] at hl
      rw [mm_dn (n := 255 - t) (m := 254 - t) (by omega)] at hl
      refine lv_iload_n C.1 C.2.1 dX4_climb_45 rfl (lv_at hl 0 rfl) ?_
      refine lv_if_lt (tgt := 105) C.1 C.2.1 dX4_climb_46 (by decide) (fun h_12 => absurd h_12 (nI_pos (by omega))) (fun _ => ?_)
      refine lv_aload_n C.1 C.2.1 dX4_climb_49 rfl (lv_at hl 2 rfl) ?_
      refine m_get C w (k := 13) (j := 0) (v := .ref (r (14))) flX4_9 (by decide) rfl rfl dX4_climb_50 ?_
      refine lv_iload_n C.1 C.2.1 dX4_climb_53 rfl (lv_at hl 0 rfl) ?_
      refine lv_iconst (v := 3) C.1 C.2.1 dX4_climb_54 (by decide) ?_
      refine lv_ishr C.1 C.2.1 dX4_climb_55 ?_
      refine m_i (y := nI ((254 - t) / 8)) (pk_shrN (n := 254 - t) (by omega) _ 3 (by decide)) ?_
      refine m_bald C w (k := 14) (i := (254 - t) / 8) (n := 32) (wr := true) (by decide) rfl (by omega) (by decide) dX4_climb_56 ?_
      refine lv_iload_n C.1 C.2.1 dX4_climb_57 rfl (lv_at hl 0 rfl) ?_
      refine lv_bipush (v := 7) C.1 C.2.1 dX4_climb_58 (by decide) ?_
      refine lv_iand C.1 C.2.1 dX4_climb_60 ?_
      refine m_i (y := nI ((254 - t) % 8)) (pk_andN (n := 254 - t) (by omega) 3 (by decide)) ?_
      refine lv_ishr C.1 C.2.1 dX4_climb_61 ?_
      refine lv_iconst (v := 1) C.1 C.2.1 dX4_climb_62 (by decide) ?_
      refine lv_iand C.1 C.2.1 dX4_climb_63 ?_
      refine lv_topi (fun x3_13 ex3_13 => ?_)
      refine lv_istore_n (lv' := [(3, .int (x3_13)), (2, .int (nI (254 - t))), (1, .int (y_11)), (0, .ref (r (13)))]) C.1 C.2.1 dX4_climb_64 rfl hl (by decide) rfl (fun ls hl => ?_)
      refine lv_iload_n C.1 C.2.1 dX4_climb_65 rfl (lv_at hl 2 rfl) ?_
      refine lv_iload_n C.1 C.2.1 dX4_climb_66 rfl (lv_at hl 0 rfl) ?_
      refine lv_ixor C.1 C.2.1 dX4_climb_67 ?_
      refine lv_aload_n C.1 C.2.1 dX4_climb_68 rfl (lv_at hl 3 rfl) ?_
      refine m_get C w (k := 13) (j := 3) (v := .ref (r (17))) flX4_22 (by decide) rfl rfl dX4_climb_69 ?_
      refine lv_aload_n C.1 C.2.1 dX4_climb_72 rfl (lv_at hl 3 rfl) ?_
      refine m_get C w (k := 13) (j := 5) (v := .ref (r (19))) flX4_28 (by decide) rfl rfl dX4_climb_73 ?_
      refine m_csv C w hl csX4_93 (As := [.int ((y_11) ^^^ (x3_13)), .ref (r (17)), .ref (r (19))]) (rest := []) (c_X4_swapIf l D b0 r M_10 ((y_11) ^^^ (x3_13)) 17 19 (by decide) rfl (by decide) (by omega) (by decide) rfl (by decide) (by omega)) rfl rfl (Nat.le_of_ble_eq_true rfl) ⟨Nat.le_of_ble_eq_true rfl, Nat.le_of_ble_eq_true rfl⟩ ⟨Nat.zero_le _, Nat.zero_le _⟩ dX4_climb_76 (fun M_14 H locs eM_14 w => ?_)
      refine lv_iload_n C.1 C.2.1 dX4_climb_79 rfl (lv_at hl 2 rfl) ?_
      refine lv_iload_n C.1 C.2.1 dX4_climb_80 rfl (lv_at hl 0 rfl) ?_
      refine lv_ixor C.1 C.2.1 dX4_climb_81 ?_
      refine lv_aload_n C.1 C.2.1 dX4_climb_82 rfl (lv_at hl 3 rfl) ?_
      refine m_get C w (k := 13) (j := 4) (v := .ref (r (18))) flX4_25 (by decide) rfl rfl dX4_climb_83 ?_
      refine lv_aload_n C.1 C.2.1 dX4_climb_86 rfl (lv_at hl 3 rfl) ?_
      refine m_get C w (k := 13) (j := 6) (v := .ref (r (20))) flX4_31 (by decide) rfl rfl dX4_climb_87 ?_
      refine m_csv C w hl csX4_93 (As := [.int ((y_11) ^^^ (x3_13)), .ref (r (18)), .ref (r (20))]) (rest := []) (c_X4_swapIf l D b0 r M_14 ((y_11) ^^^ (x3_13)) 18 20 (by decide) rfl (by decide) (by omega) (by decide) rfl (by decide) (by omega)) rfl rfl (Nat.le_of_ble_eq_true rfl) ⟨Nat.le_of_ble_eq_true rfl, Nat.le_of_ble_eq_true rfl⟩ ⟨Nat.zero_le _, Nat.zero_le _⟩ dX4_climb_90 (fun M_15 H locs eM_15 w => ?_)
      refine lv_iload_n C.1 C.2.1 dX4_climb_93 rfl (lv_at hl 0 rfl) ?_
      refine lv_istore_n (lv' := [(1, .int (x3_13)), (3, .int (x3_13)), (2, .int (nI (254 - t))), (0, .ref (r (13)))]) C.1 C.2.1 dX4_climb_94 rfl hl (by decide) rfl (fun ls hl => ?_)
      refine lv_aload_n C.1 C.2.1 dX4_climb_95 rfl (lv_at hl 3 rfl) ?_
      refine m_cvv C w hl cvX4_97 (k := 13) (by decide) rfl (q := (RX4, TX4, 9)) rfl rfl (As := []) (rest := []) (c_X4_step l D b0 r M_15  ) rfl rfl (Nat.le_of_ble_eq_true rfl) ⟨Nat.le_of_ble_eq_true rfl, Nat.le_of_ble_eq_true rfl⟩ ⟨Nat.zero_le _, Nat.zero_le _⟩ dX4_climb_96 (fun M_16 H locs eM_16 w => ?_)
      refine lv_iinc (v := (nI (255 - (t + 1)) - 1)) (lv' := [(2, .int (nI (255 - (t + 1)) - 1)), (1, .int (x3_13)), (3, .int (x3_13)), (0, .ref (r (13)))]) C.1 C.2.1 dX4_climb_99 hl (k := 2) rfl (mm_dn2 (by omega)) (by decide) rfl (fun ls hl => ?_)
      refine lv_goto (tgt := 45) C.1 C.2.1 dX4_climb_102 (by decide) ?_
      have h9 : lv_has ls 4 [(2, .int (nI (255 - (t + 1)) - 1)), (1, .int (x3_13)), (0, .ref (r (13)))] := lv_sub hl [0, 1, 3] rfl
      have hlZ : lv_has ls 4 [(2, .int (nI (255 - (t + 1)) - 1)), (1, .int (x3_13)), (0, .ref (r (13)))] := h9
      have wZ := w
      subst eM_10 ey_11 ex3_13 eM_14 eM_15 eM_16
      refine ih (t + 1) (by omega) _ _ _ (wZ) ?_
      exact hlZ
  exact loop 255 0 (by omega) _ _ ls w (by have h9 := hl; first | exact h9 | simpa using h9)

def f_X4_invert_B1 (k1 : Nat) (k2 : Nat) (t : Nat) (M_6 : mm_M) : mm_M :=
  if 253 - t = 4 then (M_6) else (let M_9 := f_X4_multiplyLimbs k1 k1 k2 M_6
  M_9)
theorem w_f_X4_invert_B1 (k1 : Nat) (k2 : Nat) (t : Nat) (M_6 : mm_M) : mm_fr [k1] M_6 (f_X4_invert_B1 k1 k2 t M_6) := by
  unfold f_X4_invert_B1
  exact (mm_fr_ite (fun _ => (mm_fr_refl _ _)) (fun _ => ((w_f_X4_multiplyLimbs _ _ _ _).on (by simp) (mm_fr_refl _ _))))
def f_X4_invert_B2 (k1 : Nat) (k2 : Nat) (t : Nat) (M_6 : mm_M) : mm_M :=
  if 253 - t = 2 then (M_6) else (f_X4_invert_B1 k1 k2 t M_6)
theorem w_f_X4_invert_B2 (k1 : Nat) (k2 : Nat) (t : Nat) (M_6 : mm_M) : mm_fr [k1] M_6 (f_X4_invert_B2 k1 k2 t M_6) := by
  unfold f_X4_invert_B2
  exact (mm_fr_ite (fun _ => (mm_fr_refl _ _)) (fun _ => ((w_f_X4_invert_B1 _ _ _ _).on (by simp) (mm_fr_refl _ _))))
def f_X4_invert_L13 (k1 : Nat) (k2 : Nat) (σ : mm_M) : Nat → mm_M
  | 0 => σ
  | t + 1 =>
  let M_4 := f_X4_invert_L13 k1 k2 σ t
  let M_6 := f_X4_multiplyLimbs k1 k1 k1 M_4
  f_X4_invert_B2 k1 k2 t M_6
theorem w_f_X4_invert_L13 (k1 : Nat) (k2 : Nat) (σ : mm_M) : ∀ t : Nat, mm_fr [k1] σ (f_X4_invert_L13 k1 k2 σ t)
  | 0 => mm_fr_refl _ _
  | t + 1 => have ih := w_f_X4_invert_L13 k1 k2 σ t
    ((w_f_X4_invert_B2 _ _ _ _).on (by simp) ((w_f_X4_multiplyLimbs _ _ _ _).on (by simp) ih))
def f_X4_invert (k1 : Nat) (k2 : Nat) (M : mm_M) : mm_M :=
  let M_1 := mm_cpl M k2 0 k1 0 10
  let M_2 := f_X4_invert_L13 k1 k2 M_1 254
  M_2
theorem w_f_X4_invert (k1 : Nat) (k2 : Nat) (M : mm_M) : mm_fr [k1] M (f_X4_invert k1 k2 M) := by
  unfold f_X4_invert
  exact ((w_f_X4_invert_L13 _ _ _ 254).on (by simp) (mm_fr_cpl (by simp) (mm_fr_refl _ _)))
set_option maxHeartbeats 4000000 in
set_option maxRecDepth 100000 in
theorem c_X4_invert (l : Launch) (D : va_G) (b0 : Nat) (r : Nat → Nat) (M : mm_M) (k1 : Nat) (k2 : Nat) {n1 : Nat} (hk1 : k1 < 173) (hs1 : mm_sh k1 = .inl (.long, n1, true)) (hn1 : n1 < 2 ^ 31) (hp1 : 10 ≤ n1) {n2 : Nat} {w2 : Bool} (hk2 : k2 < 181) (hs2 : mm_sh k2 = .inl (.long, n2, w2)) (hn2 : n2 < 2 ^ 31) (hp2 : 10 ≤ n2) : mm_Mv l yX4_invert cX4_invert 3 2 117 D b0 r [.ref (r (k1)), .ref (r (k2))] M (fun M' => M' = f_X4_invert k1 k2 M) := by
  refine mm_enter (cc := cX4_invert) (nL := 3) (ret := none) (by decide) (Nat.le_of_ble_eq_true rfl) ?_
  intro p e s m args below meth c C w ls hl
  have hl : lv_has ls 3 [(0, .ref (r (k1))), (1, .ref (r (k2)))] := hl
  refine lv_aload_n C.1 C.2.1 dX4_invert_0 rfl (lv_at hl 1 rfl) ?_
  refine lv_iconst (v := 0) C.1 C.2.1 dX4_invert_1 (by decide) ?_
  refine lv_aload_n C.1 C.2.1 dX4_invert_2 rfl (lv_at hl 0 rfl) ?_
  refine lv_iconst (v := 0) C.1 C.2.1 dX4_invert_3 (by decide) ?_
  refine lv_bipush (v := 10) C.1 C.2.1 dX4_invert_4 (by decide) ?_
  refine m_cpl C w hl (k := k2) (k2 := k1) (sp := 0) (dp := 0) (n := 10) hk2 hs2 hn2 hk1 hs1 hn1 acX4_69 (by omega) (by omega) (Nat.le_of_ble_eq_true rfl) (Nat.le_of_ble_eq_true rfl) dX4_invert_6 (fun H locs w => ?_)
  obtain ⟨M_1, eM_1⟩ : ∃ zz, zz = mm_cpl M k2 0 k1 0 10 := ⟨_, rfl⟩
  rw [← eM_1] at w
  refine lv_sipush (v := 253) C.1 C.2.1 dX4_invert_9 (by decide) ?_
  refine lv_istore_n (lv' := [(2, .int 253), (0, .ref (r (k1))), (1, .ref (r (k2)))]) C.1 C.2.1 dX4_invert_12 rfl hl (by decide) rfl (fun ls hl => ?_)
  have loop : ∀ (k t : Nat), t + k = 254 → ∀ (H : Heap) (locs : List Loc) (ls : Array Slot), mm_W D b0 r (f_X4_invert_L13 k1 k2 M_1 t) s H locs → lv_has ls 3 [(2, .int (nI (254 - t) - 1)), (0, .ref (r (k1))), (1, .ref (r (k2)))] → W p l e (mm_rm 2 117) s m args below meth c H locs 0 0 (MQ below (va_Qv (fun M' => M' = f_X4_invert k1 k2 M) (mm_U D b0 r) (fun q => b0 ≤ q)) args s 0 0 (fun q => b0 ≤ q)) (F0 m 13 ls []) := by
    intro k
    induction k with
    | zero =>
      intro t ht H locs ls w hl
      obtain rfl : 254 = t := by omega
      obtain ⟨M_2, eM_2⟩ : ∃ zz, zz = f_X4_invert_L13 k1 k2 M_1 254 := ⟨_, rfl⟩
      rw [← eM_2] at w
      refine lv_iload_n C.1 C.2.1 dX4_invert_13 rfl (lv_at hl 0 rfl) ?_
      refine lv_if_lt (tgt := 45) C.1 C.2.1 dX4_invert_14 (by decide) (fun _ => ?_) (fun h_3 => absurd h_3 (fun q => q (mm_neg (by omega))))
      exact m_vret C w (by subst eM_1 eM_2; exact Eq.symm (rfl)) dX4_invert_45
    | succ k ih =>
      intro t ht H locs ls w hl
      obtain ⟨M_4, eM_4⟩ : ∃ zz, zz = f_X4_invert_L13 k1 k2 M_1 t := ⟨_, rfl⟩
      rw [← eM_4] at w
      rw [mm_dn (n := 254 - t) (m := 253 - t) (by omega)] at hl
      refine lv_iload_n C.1 C.2.1 dX4_invert_13 rfl (lv_at hl 0 rfl) ?_
      refine lv_if_lt (tgt := 45) C.1 C.2.1 dX4_invert_14 (by decide) (fun h_5 => absurd h_5 (nI_pos (by omega))) (fun _ => ?_)
      refine lv_aload_n C.1 C.2.1 dX4_invert_17 rfl (lv_at hl 1 rfl) ?_
      refine lv_aload_n C.1 C.2.1 dX4_invert_18 rfl (lv_at hl 1 rfl) ?_
      refine lv_aload_n C.1 C.2.1 dX4_invert_19 rfl (lv_at hl 1 rfl) ?_
      refine m_csv C w hl csX4_61 (As := [.ref (r (k1)), .ref (r (k1)), .ref (r (k1))]) (rest := []) (c_X4_multiplyLimbs l D b0 r M_4 k1 k1 k1 hk1 hs1 hn1 (by omega) (Nat.lt_trans hk1 (by decide)) hs1 hn1 (by omega) (Nat.lt_trans hk1 (by decide)) hs1 hn1 (by omega)) rfl rfl (Nat.le_of_ble_eq_true rfl) ⟨Nat.le_of_ble_eq_true rfl, Nat.le_of_ble_eq_true rfl⟩ ⟨Nat.zero_le _, Nat.zero_le _⟩ dX4_invert_20 (fun M_6 H locs eM_6 w => ?_)
      refine lv_iload_n C.1 C.2.1 dX4_invert_23 rfl (lv_at hl 0 rfl) ?_
      refine lv_iconst (v := 2) C.1 C.2.1 dX4_invert_24 (by decide) ?_
      refine m_icmp_eq (tgt := 39) (a := 253 - t) (b := 2) C (by omega) (by omega) dX4_invert_25 (by decide) (fun h_7 => ?_) (fun h_7 => ?_)
      · refine lv_iinc (v := (nI (254 - (t + 1)) - 1)) (lv' := [(2, .int (nI (254 - (t + 1)) - 1)), (0, .ref (r (k1))), (1, .ref (r (k2)))]) C.1 C.2.1 dX4_invert_39 hl (k := 0) rfl (mm_dn2 (by omega)) (by decide) rfl (fun ls hl => ?_)
        refine lv_goto (tgt := 13) C.1 C.2.1 dX4_invert_42 (by decide) ?_
        have h9 : lv_has ls 3 [(2, .int (nI (254 - (t + 1)) - 1)), (0, .ref (r (k1))), (1, .ref (r (k2)))] := lv_sub hl [0, 1, 2] rfl
        have hlZ : lv_has ls 3 [(2, .int (nI (254 - (t + 1)) - 1)), (0, .ref (r (k1))), (1, .ref (r (k2)))] := h9
        have wZ := w
        subst eM_4 eM_6
        refine ih (t + 1) (by omega) _ _ _ (m_w (Eq.symm (congrArg (fun z => z) (show f_X4_invert_L13 k1 k2 M_1 (t + 1) = _ from ((if_pos h_7).trans rfl)))) wZ) ?_
        exact hlZ
      · refine lv_iload_n C.1 C.2.1 dX4_invert_28 rfl (lv_at hl 0 rfl) ?_
        refine lv_iconst (v := 4) C.1 C.2.1 dX4_invert_29 (by decide) ?_
        refine m_icmp_eq (tgt := 39) (a := 253 - t) (b := 4) C (by omega) (by omega) dX4_invert_30 (by decide) (fun h_8 => ?_) (fun h_8 => ?_)
        · refine lv_iinc (v := (nI (254 - (t + 1)) - 1)) (lv' := [(2, .int (nI (254 - (t + 1)) - 1)), (0, .ref (r (k1))), (1, .ref (r (k2)))]) C.1 C.2.1 dX4_invert_39 hl (k := 0) rfl (mm_dn2 (by omega)) (by decide) rfl (fun ls hl => ?_)
          refine lv_goto (tgt := 13) C.1 C.2.1 dX4_invert_42 (by decide) ?_
          have h9 : lv_has ls 3 [(2, .int (nI (254 - (t + 1)) - 1)), (0, .ref (r (k1))), (1, .ref (r (k2)))] := lv_sub hl [0, 1, 2] rfl
          have hlZ : lv_has ls 3 [(2, .int (nI (254 - (t + 1)) - 1)), (0, .ref (r (k1))), (1, .ref (r (k2)))] := h9
          have wZ := w
          subst eM_4 eM_6
          refine ih (t + 1) (by omega) _ _ _ (m_w (Eq.symm (congrArg (fun z => z) (show f_X4_invert_L13 k1 k2 M_1 (t + 1) = _ from ((if_neg h_7).trans ((if_pos h_8).trans rfl))))) wZ) ?_
          exact hlZ
        · refine lv_aload_n C.1 C.2.1 dX4_invert_33 rfl (lv_at hl 1 rfl) ?_
          refine lv_aload_n C.1 C.2.1 dX4_invert_34 rfl (lv_at hl 1 rfl) ?_
          refine lv_aload_n C.1 C.2.1 dX4_invert_35 rfl (lv_at hl 2 rfl) ?_
          refine m_csv C w hl csX4_61 (As := [.ref (r (k1)), .ref (r (k1)), .ref (r (k2))]) (rest := []) (c_X4_multiplyLimbs l D b0 r M_6 k1 k1 k2 hk1 hs1 hn1 (by omega) (Nat.lt_trans hk1 (by decide)) hs1 hn1 (by omega) hk2 hs2 hn2 (by omega)) rfl rfl (Nat.le_of_ble_eq_true rfl) ⟨Nat.le_of_ble_eq_true rfl, Nat.le_of_ble_eq_true rfl⟩ ⟨Nat.zero_le _, Nat.zero_le _⟩ dX4_invert_36 (fun M_9 H locs eM_9 w => ?_)
          refine lv_iinc (v := (nI (254 - (t + 1)) - 1)) (lv' := [(2, .int (nI (254 - (t + 1)) - 1)), (0, .ref (r (k1))), (1, .ref (r (k2)))]) C.1 C.2.1 dX4_invert_39 hl (k := 0) rfl (mm_dn2 (by omega)) (by decide) rfl (fun ls hl => ?_)
          refine lv_goto (tgt := 13) C.1 C.2.1 dX4_invert_42 (by decide) ?_
          have h9 : lv_has ls 3 [(2, .int (nI (254 - (t + 1)) - 1)), (0, .ref (r (k1))), (1, .ref (r (k2)))] := lv_sub hl [0, 1, 2] rfl
          have hlZ : lv_has ls 3 [(2, .int (nI (254 - (t + 1)) - 1)), (0, .ref (r (k1))), (1, .ref (r (k2)))] := h9
          have wZ := w
          subst eM_4 eM_6 eM_9
          refine ih (t + 1) (by omega) _ _ _ (m_w (Eq.symm (congrArg (fun z => z) (show f_X4_invert_L13 k1 k2 M_1 (t + 1) = _ from ((if_neg h_7).trans ((if_neg h_8).trans rfl))))) wZ) ?_
          exact hlZ
  exact loop 254 0 (by omega) _ _ ls w (by have h9 := hl; first | exact h9 | simpa using h9)

def f_X4_reduce_L49 (k1 : Nat) (σ : mm_M × Int64) : Nat → mm_M × Int64
  | 0 => σ
  | t + 1 =>
  let M_8 := (f_X4_reduce_L49 k1 σ t).1
  let y_9 := (f_X4_reduce_L49 k1 σ t).2
  let x4_11 := (M_8.2 k1 t) + (y_9)
  let x1_13 := (x4_11) >>> (((f_X4_limbBits t)).toInt64 &&& 63)
  let M_15 := mm_wl M_8 k1 t ((x4_11) - ((x1_13) <<< (((f_X4_limbBits t)).toInt64 &&& 63)))
  (M_15, (x1_13))
theorem w_f_X4_reduce_L49 (k1 : Nat) (σ : mm_M × Int64) : ∀ t : Nat, mm_fr1 [k1] σ.1 (f_X4_reduce_L49 k1 σ t)
  | 0 => mm_fr_refl _ _
  | t + 1 => have ih := (w_f_X4_reduce_L49 k1 σ t).m
    (mm_fr_wl (by simp) ih).a
def f_X4_reduce_L18 (k1 : Nat) (M : mm_M) (σ : Int64) : Nat → Int64
  | 0 => σ
  | t + 1 =>
  let y_16 := f_X4_reduce_L18 k1 M σ t
  let x1_19 := ((M.2 k1 t) + (y_16)) >>> (((f_X4_limbBits t)).toInt64 &&& 63)
  (x1_19)
def f_X4_reduce (k1 : Nat) (M : mm_M) : mm_M :=
  let x1_1 := (((19) * (M.2 k1 9)) + (16777216)) >>> (((25 : Int32)).toInt64 &&& 63)
  let y_2 := f_X4_reduce_L18 k1 M (x1_1) 10
  let x1_4 := (y_2) * (19)
  let M_5 := (f_X4_reduce_L49 k1 (M, (x1_4)) 10).1
  let y_6 := (f_X4_reduce_L49 k1 (M, (x1_4)) 10).2
  M_5
theorem w_f_X4_reduce (k1 : Nat) (M : mm_M) : mm_fr [k1] M (f_X4_reduce k1 M) := by
  unfold f_X4_reduce
  exact ((w_f_X4_reduce_L49 _ _ 10).m.on (by simp) (mm_fr_refl _ _))
set_option maxHeartbeats 4000000 in
set_option maxRecDepth 100000 in
theorem c_X4_reduce (l : Launch) (D : va_G) (b0 : Nat) (r : Nat → Nat) (M : mm_M) (k1 : Nat) {n1 : Nat} (hk1 : k1 < 173) (hs1 : mm_sh k1 = .inl (.long, n1, true)) (hn1 : n1 < 2 ^ 31) (hp1 : 10 ≤ n1) : mm_Mv l yX4_reduce cX4_reduce 6 1 20 D b0 r [.ref (r (k1))] M (fun M' => M' = f_X4_reduce k1 M) := by
  refine mm_enter (cc := cX4_reduce) (nL := 6) (ret := none) (by decide) (Nat.le_of_ble_eq_true rfl) ?_
  intro p e s m args below meth c C w ls hl
  have hl : lv_has ls 6 [(0, .ref (r (k1)))] := hl
  refine lv_ldc2 (v := (19)) C.1 C.2.1 C.2.2.2.1 (C.2.2.2.2.1 _ klX4_117) dX4_reduce_0 ?_
  refine lv_aload_n C.1 C.2.1 dX4_reduce_3 rfl (lv_at hl 0 rfl) ?_
  refine lv_bipush (v := 9) C.1 C.2.1 dX4_reduce_4 (by decide) ?_
  refine m_lald C w (k := k1) (i := 9) (n := n1) (wr := true) (Nat.lt_trans hk1 (by decide)) hs1 (by omega) hn1 dX4_reduce_6 ?_
  refine lv_lmul C.1 C.2.1 dX4_reduce_7 ?_
  refine lv_ldc2 (v := (16777216)) C.1 C.2.1 C.2.2.2.1 (C.2.2.2.2.1 _ klX4_121) dX4_reduce_8 ?_
  refine lv_ladd C.1 C.2.1 dX4_reduce_11 ?_
  refine lv_bipush (v := 25) C.1 C.2.1 dX4_reduce_12 (by decide) ?_
  refine lv_lshr (v := (((19) * (M.2 k1 9)) + (16777216)) >>> (((25 : Int32)).toInt64 &&& 63)) C.1 C.2.1 dX4_reduce_14 rfl ?_
  refine lv_topl (fun x1_1 ex1_1 => ?_)
  refine lv_lstore_n (lv' := [(1, .long (x1_1)), (0, .ref (r (k1)))]) C.1 C.2.1 dX4_reduce_15 rfl hl (by decide) rfl (fun ls hl => ?_)
  refine lv_iconst (v := 0) C.1 C.2.1 dX4_reduce_16 (by decide) ?_
  refine lv_istore_n (lv' := [(3, .int 0), (1, .long (x1_1)), (0, .ref (r (k1)))]) C.1 C.2.1 dX4_reduce_17 rfl hl (by decide) rfl (fun ls hl => ?_)
  have loop : ∀ (k t : Nat), t + k = 10 → ∀ (H : Heap) (locs : List Loc) (ls : Array Slot), mm_W D b0 r (M) s H locs → lv_has ls 6 [(3, .int (nI (t))), (1, .long (f_X4_reduce_L18 k1 M (x1_1) t)), (0, .ref (r (k1)))] → W p l e (mm_rm 1 20) s m args below meth c H locs 0 0 (MQ below (va_Qv (fun M' => M' = f_X4_reduce k1 M) (mm_U D b0 r) (fun q => b0 ≤ q)) args s 0 0 (fun q => b0 ≤ q)) (F0 m 18 ls []) := by
    intro k
    induction k with
    | zero =>
      intro t ht H locs ls w hl
      obtain rfl : 10 = t := by omega
      obtain ⟨y_2, ey_2⟩ : ∃ zz, zz = f_X4_reduce_L18 k1 M (x1_1) 10 := ⟨_, rfl⟩
      rw [← ey_2] at hl
      refine lv_iload_n C.1 C.2.1 dX4_reduce_18 rfl (lv_at hl 0 rfl) ?_
      refine lv_bipush (v := 10) C.1 C.2.1 dX4_reduce_19 (by decide) ?_
      refine m_icmp_ge (tgt := 41) (a := 10) (b := 10) C (by omega) (by omega) dX4_reduce_21 (by decide) (fun _ => ?_) (fun h_3 => absurd h_3 (by omega))
      refine lv_lload_n C.1 C.2.1 dX4_reduce_41 rfl (lv_at hl 1 rfl) ?_
      refine lv_ldc2 (v := (19)) C.1 C.2.1 C.2.2.2.1 (C.2.2.2.2.1 _ klX4_117) dX4_reduce_42 ?_
      refine lv_lmul C.1 C.2.1 dX4_reduce_45 ?_
      refine lv_topl (fun x1_4 ex1_4 => ?_)
      refine lv_lstore_n (lv' := [(1, .long (x1_4)), (3, .int (nI (10))), (0, .ref (r (k1)))]) C.1 C.2.1 dX4_reduce_46 rfl hl (by decide) rfl (fun ls hl => ?_)
      refine lv_iconst (v := 0) C.1 C.2.1 dX4_reduce_47 (by decide) ?_
      refine lv_istore_n (lv' := [(3, .int 0), (1, .long (x1_4)), (0, .ref (r (k1)))]) C.1 C.2.1 dX4_reduce_48 rfl hl (by decide) rfl (fun ls hl => ?_)
      have loop : ∀ (k t : Nat), t + k = 10 → ∀ (H : Heap) (locs : List Loc) (ls : Array Slot), mm_W D b0 r ((f_X4_reduce_L49 k1 (M, (x1_4)) t).1) s H locs → lv_has ls 6 [(3, .int (nI (t))), (1, .long ((f_X4_reduce_L49 k1 (M, (x1_4)) t).2)), (0, .ref (r (k1)))] → W p l e (mm_rm 1 20) s m args below meth c H locs 0 0 (MQ below (va_Qv (fun M' => M' = f_X4_reduce k1 M) (mm_U D b0 r) (fun q => b0 ≤ q)) args s 0 0 (fun q => b0 ≤ q)) (F0 m 49 ls []) := by
        intro k
        induction k with
        | zero =>
          intro t ht H locs ls w hl
          obtain rfl : 10 = t := by omega
          obtain ⟨M_5, eM_5⟩ : ∃ zz, zz = (f_X4_reduce_L49 k1 (M, (x1_4)) 10).1 := ⟨_, rfl⟩
          rw [← eM_5] at w
          obtain ⟨y_6, ey_6⟩ : ∃ zz, zz = (f_X4_reduce_L49 k1 (M, (x1_4)) 10).2 := ⟨_, rfl⟩
          rw [← ey_6] at hl
          refine lv_iload_n C.1 C.2.1 dX4_reduce_49 rfl (lv_at hl 0 rfl) ?_
          refine lv_bipush (v := 10) C.1 C.2.1 dX4_reduce_50 (by decide) ?_
          refine m_icmp_ge (tgt := 88) (a := 10) (b := 10) C (by omega) (by omega) dX4_reduce_52 (by decide) (fun _ => ?_) (fun h_7 => absurd h_7 (by omega))
          exact m_vret C w (by subst ex1_1 ey_2 ex1_4 eM_5 ey_6; exact Eq.symm (rfl)) dX4_reduce_88
        | succ k ih =>
          intro t ht H locs ls w hl
          obtain ⟨M_8, eM_8⟩ : ∃ zz, zz = (f_X4_reduce_L49 k1 (M, (x1_4)) t).1 := ⟨_, rfl⟩
          rw [← eM_8] at w
          obtain ⟨y_9, ey_9⟩ : ∃ zz, zz = (f_X4_reduce_L49 k1 (M, (x1_4)) t).2 := ⟨_, rfl⟩
          rw [← ey_9] at hl
          refine lv_iload_n C.1 C.2.1 dX4_reduce_49 rfl (lv_at hl 0 rfl) ?_
          refine lv_bipush (v := 10) C.1 C.2.1 dX4_reduce_50 (by decide) ?_
          refine m_icmp_ge (tgt := 88) (a := t) (b := 10) C (by omega) (by omega) dX4_reduce_52 (by decide) (fun h_10 => absurd h_10 (by omega)) (fun _ => ?_)
          refine lv_aload_n C.1 C.2.1 dX4_reduce_55 rfl (lv_at hl 2 rfl) ?_
          refine lv_iload_n C.1 C.2.1 dX4_reduce_56 rfl (lv_at hl 0 rfl) ?_
          refine m_lald C w (k := k1) (i := t) (n := n1) (wr := true) (Nat.lt_trans hk1 (by decide)) hs1 (by omega) hn1 dX4_reduce_57 ?_
          refine lv_lload_n C.1 C.2.1 dX4_reduce_58 rfl (lv_at hl 1 rfl) ?_
          refine lv_ladd C.1 C.2.1 dX4_reduce_59 ?_
          refine lv_topl (fun x4_11 ex4_11 => ?_)
          refine lv_lstore (lv' := [(4, .long (x4_11)), (3, .int (nI (t))), (1, .long (y_9)), (0, .ref (r (k1)))]) C.1 C.2.1 dX4_reduce_60 hl (by decide) rfl (fun ls hl => ?_)
          refine lv_lload C.1 C.2.1 dX4_reduce_62 (lv_at hl 0 rfl) ?_
          refine lv_iload_n C.1 C.2.1 dX4_reduce_64 rfl (lv_at hl 1 rfl) ?_
          refine m_csi C w hl csX4_85 (As := [.int (nI (t))]) (rest := [.long (x4_11)]) (c_X4_limbBits l D b0 r M_8 t (by omega)) rfl rfl (Nat.le_of_ble_eq_true rfl) ⟨Nat.le_of_ble_eq_true rfl, Nat.le_of_ble_eq_true rfl⟩ ⟨Nat.zero_le _, Nat.zero_le _⟩ dX4_reduce_65 (fun v_12 M9 H locs e9 w => ?_)
          obtain ⟨ev_12, e9⟩ := e9
          rw [e9] at w
          subst ev_12
          refine lv_lshr (v := (x4_11) >>> (((f_X4_limbBits t)).toInt64 &&& 63)) C.1 C.2.1 dX4_reduce_68 rfl ?_
          refine lv_topl (fun x1_13 ex1_13 => ?_)
          refine lv_lstore_n (lv' := [(1, .long (x1_13)), (4, .long (x4_11)), (3, .int (nI (t))), (0, .ref (r (k1)))]) C.1 C.2.1 dX4_reduce_69 rfl hl (by decide) rfl (fun ls hl => ?_)
          refine lv_aload_n C.1 C.2.1 dX4_reduce_70 rfl (lv_at hl 3 rfl) ?_
          refine lv_iload_n C.1 C.2.1 dX4_reduce_71 rfl (lv_at hl 2 rfl) ?_
          refine lv_lload C.1 C.2.1 dX4_reduce_72 (lv_at hl 1 rfl) ?_
          refine lv_lload_n C.1 C.2.1 dX4_reduce_74 rfl (lv_at hl 0 rfl) ?_
          refine lv_iload_n C.1 C.2.1 dX4_reduce_75 rfl (lv_at hl 2 rfl) ?_
          refine m_csi C w hl csX4_85 (As := [.int (nI (t))]) (rest := [.long (x1_13), .long (x4_11), .int (nI (t)), .ref (r (k1))]) (c_X4_limbBits l D b0 r M_8 t (by omega)) rfl rfl (Nat.le_of_ble_eq_true rfl) ⟨Nat.le_of_ble_eq_true rfl, Nat.le_of_ble_eq_true rfl⟩ ⟨Nat.zero_le _, Nat.zero_le _⟩ dX4_reduce_76 (fun v_14 M9 H locs e9 w => ?_)
          obtain ⟨ev_14, e9⟩ := e9
          rw [e9] at w
          subst ev_14
          refine lv_lshl (v := (x1_13) <<< (((f_X4_limbBits t)).toInt64 &&& 63)) C.1 C.2.1 dX4_reduce_79 rfl ?_
          refine lv_lsub C.1 C.2.1 dX4_reduce_80 ?_
          refine m_last C w (k := k1) (i := t) (n := n1) (x := ((x4_11) - ((x1_13) <<< (((f_X4_limbBits t)).toInt64 &&& 63)))) hk1 hs1 (by omega) hn1 dX4_reduce_81 (fun H locs w => ?_)
          obtain ⟨M_15, eM_15⟩ : ∃ zz, zz = mm_wl M_8 k1 t ((x4_11) - ((x1_13) <<< (((f_X4_limbBits t)).toInt64 &&& 63))) := ⟨_, rfl⟩
          rw [← eM_15] at w
          refine lv_iinc (v := (nI (t + 1))) (lv' := [(3, .int (nI (t + 1))), (1, .long (x1_13)), (4, .long (x4_11)), (0, .ref (r (k1)))]) C.1 C.2.1 dX4_reduce_82 hl (k := 2) rfl (nI_add t 1) (by decide) rfl (fun ls hl => ?_)
          refine lv_goto (tgt := 49) C.1 C.2.1 dX4_reduce_85 (by decide) ?_
          have h9 : lv_has ls 6 [(3, .int (nI (t + 1))), (1, .long (x1_13)), (0, .ref (r (k1)))] := lv_sub hl [0, 1, 3] rfl
          have hlZ : lv_has ls 6 [(3, .int (nI (t + 1))), (1, .long (x1_13)), (0, .ref (r (k1)))] := h9
          have wZ := w
          subst eM_8 ey_9 ex4_11 ex1_13 eM_15
          refine ih (t + 1) (by omega) _ _ _ (wZ) ?_
          exact hlZ
      exact loop 10 0 (by omega) _ _ ls w hl
    | succ k ih =>
      intro t ht H locs ls w hl
      obtain ⟨y_16, ey_16⟩ : ∃ zz, zz = f_X4_reduce_L18 k1 M (x1_1) t := ⟨_, rfl⟩
      rw [← ey_16] at hl
      refine lv_iload_n C.1 C.2.1 dX4_reduce_18 rfl (lv_at hl 0 rfl) ?_
      refine lv_bipush (v := 10) C.1 C.2.1 dX4_reduce_19 (by decide) ?_
      refine m_icmp_ge (tgt := 41) (a := t) (b := 10) C (by omega) (by omega) dX4_reduce_21 (by decide) (fun h_17 => absurd h_17 (by omega)) (fun _ => ?_)
      refine lv_aload_n C.1 C.2.1 dX4_reduce_24 rfl (lv_at hl 2 rfl) ?_
      refine lv_iload_n C.1 C.2.1 dX4_reduce_25 rfl (lv_at hl 0 rfl) ?_
      refine m_lald C w (k := k1) (i := t) (n := n1) (wr := true) (Nat.lt_trans hk1 (by decide)) hs1 (by omega) hn1 dX4_reduce_26 ?_
      refine lv_lload_n C.1 C.2.1 dX4_reduce_27 rfl (lv_at hl 1 rfl) ?_
      refine lv_ladd C.1 C.2.1 dX4_reduce_28 ?_
      refine lv_iload_n C.1 C.2.1 dX4_reduce_29 rfl (lv_at hl 0 rfl) ?_
      refine m_csi C w hl csX4_85 (As := [.int (nI (t))]) (rest := [.long ((M.2 k1 t) + (y_16))]) (c_X4_limbBits l D b0 r M t (by omega)) rfl rfl (Nat.le_of_ble_eq_true rfl) ⟨Nat.le_of_ble_eq_true rfl, Nat.le_of_ble_eq_true rfl⟩ ⟨Nat.zero_le _, Nat.zero_le _⟩ dX4_reduce_30 (fun v_18 M9 H locs e9 w => ?_)
      obtain ⟨ev_18, e9⟩ := e9
      rw [e9] at w
      subst ev_18
      refine lv_lshr (v := ((M.2 k1 t) + (y_16)) >>> (((f_X4_limbBits t)).toInt64 &&& 63)) C.1 C.2.1 dX4_reduce_33 rfl ?_
      refine lv_topl (fun x1_19 ex1_19 => ?_)
      refine lv_lstore_n (lv' := [(1, .long (x1_19)), (3, .int (nI (t))), (0, .ref (r (k1)))]) C.1 C.2.1 dX4_reduce_34 rfl hl (by decide) rfl (fun ls hl => ?_)
      refine lv_iinc (v := (nI (t + 1))) (lv' := [(3, .int (nI (t + 1))), (1, .long (x1_19)), (0, .ref (r (k1)))]) C.1 C.2.1 dX4_reduce_35 hl (k := 1) rfl (nI_add t 1) (by decide) rfl (fun ls hl => ?_)
      refine lv_goto (tgt := 18) C.1 C.2.1 dX4_reduce_38 (by decide) ?_
      have h9 : lv_has ls 6 [(3, .int (nI (t + 1))), (1, .long (x1_19)), (0, .ref (r (k1)))] := lv_sub hl [0, 1, 2] rfl
      have hlZ : lv_has ls 6 [(3, .int (nI (t + 1))), (1, .long (x1_19)), (0, .ref (r (k1)))] := h9
      have wZ := w
      subst ey_16 ex1_19
      refine ih (t + 1) (by omega) _ _ _ (wZ) ?_
      exact hlZ
  exact loop 10 0 (by omega) _ _ ls w hl

def f_X4_encode_L27 (k1 : Nat) (σ : mm_M) : Nat → mm_M
  | 0 => σ
  | t + 1 =>
  let M_6 := f_X4_encode_L27 k1 σ t
  let x4_9 := (f_X1_loadLittle 15 ((mm_lim t) / 8) M_6) ||| ((((M_6.2 k1 t) : Int64).toInt32) <<< ((nI ((mm_lim t) % 8)) &&& 31))
  let M_10 := f_X1_storeLittle (x4_9) 15 ((mm_lim t) / 8) M_6
  M_10
theorem w_f_X4_encode_L27 (k1 : Nat) (σ : mm_M) : ∀ t : Nat, mm_fr [15] σ (f_X4_encode_L27 k1 σ t)
  | 0 => mm_fr_refl _ _
  | t + 1 => have ih := w_f_X4_encode_L27 k1 σ t
    ((w_f_X1_storeLittle _ _ _ _).on (by simp) ih)
def f_X4_encode_L6  (σ : mm_M) : Nat → mm_M
  | 0 => σ
  | t + 1 =>
  let M_11 := f_X4_encode_L6 σ t
  let M_13 := mm_w M_11 15 t (0 : Int32)
  M_13
theorem w_f_X4_encode_L6  (σ : mm_M) : ∀ t : Nat, mm_fr [15] σ (f_X4_encode_L6 σ t)
  | 0 => mm_fr_refl _ _
  | t + 1 => have ih := w_f_X4_encode_L6 σ t
    (mm_fr_w (by simp) ih)
def f_X4_encode (k1 : Nat) (M : mm_M) : mm_M :=
  let M_1 := f_X4_reduce k1 M
  let M_2 := f_X4_encode_L6 M_1 32
  let M_4 := f_X4_encode_L27 k1 M_2 10
  M_4
theorem w_f_X4_encode (k1 : Nat) (M : mm_M) : mm_fr [k1, 15] M (f_X4_encode k1 M) := by
  unfold f_X4_encode
  exact ((w_f_X4_encode_L27 _ _ 10).on (by simp) ((w_f_X4_encode_L6 _ 32).on (by simp) ((w_f_X4_reduce _ _).on (by simp) (mm_fr_refl _ _))))
set_option maxHeartbeats 4000000 in
set_option maxRecDepth 100000 in
theorem c_X4_encode (l : Launch) (D : va_G) (b0 : Nat) (r : Nat → Nat) (M : mm_M) (k1 : Nat) {n1 : Nat} (hk1 : k1 < 173) (hs1 : mm_sh k1 = .inl (.long, n1, true)) (hn1 : n1 < 2 ^ 31) (hp1 : 10 ≤ n1) : mm_Mv l yX4_encode cX4_encode 5 2 45 D b0 r [.ref (r (13)), .ref (r (k1))] M (fun M' => M' = f_X4_encode k1 M) := by
  refine mm_enter (cc := cX4_encode) (nL := 5) (ret := none) (by decide) (Nat.le_of_ble_eq_true rfl) ?_
  intro p e s m args below meth c C w ls hl
  have hl : lv_has ls 5 [(0, .ref (r (13))), (1, .ref (r (k1)))] := hl
  refine lv_aload_n C.1 C.2.1 dX4_encode_0 rfl (lv_at hl 1 rfl) ?_
  refine m_csv C w hl csX4_123 (As := [.ref (r (k1))]) (rest := []) (c_X4_reduce l D b0 r M k1 hk1 hs1 hn1 (by omega)) rfl rfl (Nat.le_of_ble_eq_true rfl) ⟨Nat.le_of_ble_eq_true rfl, Nat.le_of_ble_eq_true rfl⟩ ⟨Nat.zero_le _, Nat.zero_le _⟩ dX4_encode_1 (fun M_1 H locs eM_1 w => ?_)
  refine lv_iconst (v := 0) C.1 C.2.1 dX4_encode_4 (by decide) ?_
  refine lv_istore_n (lv' := [(2, .int 0), (0, .ref (r (13))), (1, .ref (r (k1)))]) C.1 C.2.1 dX4_encode_5 rfl hl (by decide) rfl (fun ls hl => ?_)
  have loop : ∀ (k t : Nat), t + k = 32 → ∀ (H : Heap) (locs : List Loc) (ls : Array Slot), mm_W D b0 r (f_X4_encode_L6 M_1 t) s H locs → lv_has ls 5 [(2, .int (nI (t))), (0, .ref (r (13))), (1, .ref (r (k1)))] → W p l e (mm_rm 2 45) s m args below meth c H locs 0 0 (MQ below (va_Qv (fun M' => M' = f_X4_encode k1 M) (mm_U D b0 r) (fun q => b0 ≤ q)) args s 0 0 (fun q => b0 ≤ q)) (F0 m 6 ls []) := by
    intro k
    induction k with
    | zero =>
      intro t ht H locs ls w hl
      obtain rfl : 32 = t := by omega
      obtain ⟨M_2, eM_2⟩ : ∃ zz, zz = f_X4_encode_L6 M_1 32 := ⟨_, rfl⟩
      rw [← eM_2] at w
      refine lv_iload_n C.1 C.2.1 dX4_encode_6 rfl (lv_at hl 0 rfl) ?_
      refine lv_bipush (v := 32) C.1 C.2.1 dX4_encode_7 (by decide) ?_
      refine m_icmp_ge (tgt := 25) (a := 32) (b := 32) C (by omega) (by omega) dX4_encode_9 (by decide) (fun _ => ?_) (fun h_3 => absurd h_3 (by omega))
      refine lv_iconst (v := 0) C.1 C.2.1 dX4_encode_25 (by decide) ?_
      refine lv_istore_n (lv' := [(2, .int 0), (0, .ref (r (13))), (1, .ref (r (k1)))]) C.1 C.2.1 dX4_encode_26 rfl hl (by decide) rfl (fun ls hl => ?_)
      have loop : ∀ (k t : Nat), t + k = 10 → ∀ (H : Heap) (locs : List Loc) (ls : Array Slot), mm_W D b0 r (f_X4_encode_L27 k1 M_2 t) s H locs → lv_has ls 5 [(2, .int (nI (t))), (0, .ref (r (13))), (1, .ref (r (k1)))] → W p l e (mm_rm 2 45) s m args below meth c H locs 0 0 (MQ below (va_Qv (fun M' => M' = f_X4_encode k1 M) (mm_U D b0 r) (fun q => b0 ≤ q)) args s 0 0 (fun q => b0 ≤ q)) (F0 m 27 ls []) := by
        intro k
        induction k with
        | zero =>
          intro t ht H locs ls w hl
          obtain rfl : 10 = t := by omega
          obtain ⟨M_4, eM_4⟩ : ∃ zz, zz = f_X4_encode_L27 k1 M_2 10 := ⟨_, rfl⟩
          rw [← eM_4] at w
          refine lv_iload_n C.1 C.2.1 dX4_encode_27 rfl (lv_at hl 0 rfl) ?_
          refine lv_bipush (v := 10) C.1 C.2.1 dX4_encode_28 (by decide) ?_
          refine m_icmp_ge (tgt := 81) (a := 10) (b := 10) C (by omega) (by omega) dX4_encode_30 (by decide) (fun _ => ?_) (fun h_5 => absurd h_5 (by omega))
          exact m_vret C w (by subst eM_1 eM_2 eM_4; exact Eq.symm (rfl)) dX4_encode_81
        | succ k ih =>
          intro t ht H locs ls w hl
          obtain ⟨M_6, eM_6⟩ : ∃ zz, zz = f_X4_encode_L27 k1 M_2 t := ⟨_, rfl⟩
          rw [← eM_6] at w
          have hlm := mm_lim_le t (by omega)
          refine lv_iload_n C.1 C.2.1 dX4_encode_27 rfl (lv_at hl 0 rfl) ?_
          refine lv_bipush (v := 10) C.1 C.2.1 dX4_encode_28 (by decide) ?_
          refine m_icmp_ge (tgt := 81) (a := t) (b := 10) C (by omega) (by omega) dX4_encode_30 (by decide) (fun h_7 => absurd h_7 (by omega)) (fun _ => ?_)
          refine m_gets C w C.2.2.2.2.2.2.2.1.2.1 fsX4_75 dX4_encode_33 ?_
          refine lv_iload_n C.1 C.2.1 dX4_encode_36 rfl (lv_at hl 0 rfl) ?_
          refine m_iald C w (k := 174) (i := t) (n := 10) (wr := false) (by decide) rfl (by omega) (by decide) dX4_encode_37 ?_
          refine m_i (y := nI (mm_lim t)) (by rw [w.1.tab (k := 174) (by decide) rfl (by omega)]; exact mm_lim_tab t (by omega)) ?_
          refine lv_iconst (v := 3) C.1 C.2.1 dX4_encode_38 (by decide) ?_
          refine lv_ishr C.1 C.2.1 dX4_encode_39 ?_
          refine m_i (y := nI ((mm_lim t) / 8)) (pk_shrN (n := mm_lim t) (by omega) _ 3 (by decide)) ?_
          refine lv_istore_n (lv' := [(3, .int (nI ((mm_lim t) / 8))), (2, .int (nI (t))), (0, .ref (r (13))), (1, .ref (r (k1)))]) C.1 C.2.1 dX4_encode_40 rfl hl (by decide) rfl (fun ls hl => ?_)
          refine lv_aload_n C.1 C.2.1 dX4_encode_41 rfl (lv_at hl 2 rfl) ?_
          refine m_get C w (k := 13) (j := 1) (v := .ref (r (15))) flX4_15 (by decide) rfl rfl dX4_encode_42 ?_
          refine lv_iload_n C.1 C.2.1 dX4_encode_45 rfl (lv_at hl 0 rfl) ?_
          refine m_csi C w hl csX4_79 (As := [.ref (r (15)), .int (nI ((mm_lim t) / 8))]) (rest := []) (c_X1_loadLittle l D b0 r M_6 15 ((mm_lim t) / 8) (by decide) rfl (by decide) (by omega)) rfl rfl (Nat.le_of_ble_eq_true rfl) ⟨Nat.le_of_ble_eq_true rfl, Nat.le_of_ble_eq_true rfl⟩ ⟨Nat.zero_le _, Nat.zero_le _⟩ dX4_encode_46 (fun v_8 M9 H locs e9 w => ?_)
          obtain ⟨ev_8, e9⟩ := e9
          rw [e9] at w
          subst ev_8
          refine lv_aload_n C.1 C.2.1 dX4_encode_49 rfl (lv_at hl 3 rfl) ?_
          refine lv_iload_n C.1 C.2.1 dX4_encode_50 rfl (lv_at hl 1 rfl) ?_
          refine m_lald C w (k := k1) (i := t) (n := n1) (wr := true) (Nat.lt_trans hk1 (by decide)) hs1 (by omega) hn1 dX4_encode_51 ?_
          refine lv_l2i (v := ((M_6.2 k1 t) : Int64).toInt32) C.1 C.2.1 dX4_encode_52 rfl ?_
          refine m_gets C w C.2.2.2.2.2.2.2.1.2.1 fsX4_75 dX4_encode_53 ?_
          refine lv_iload_n C.1 C.2.1 dX4_encode_56 rfl (lv_at hl 1 rfl) ?_
          refine m_iald C w (k := 174) (i := t) (n := 10) (wr := false) (by decide) rfl (by omega) (by decide) dX4_encode_57 ?_
          refine m_i (y := nI (mm_lim t)) (by rw [w.1.tab (k := 174) (by decide) rfl (by omega)]; exact mm_lim_tab t (by omega)) ?_
          refine lv_bipush (v := 7) C.1 C.2.1 dX4_encode_58 (by decide) ?_
          refine lv_iand C.1 C.2.1 dX4_encode_60 ?_
          refine m_i (y := nI ((mm_lim t) % 8)) (pk_andN (n := mm_lim t) (by omega) 3 (by decide)) ?_
          refine lv_ishl C.1 C.2.1 dX4_encode_61 ?_
          refine lv_ior C.1 C.2.1 dX4_encode_62 ?_
          refine lv_topi (fun x4_9 ex4_9 => ?_)
          refine lv_istore (lv' := [(4, .int (x4_9)), (3, .int (nI ((mm_lim t) / 8))), (2, .int (nI (t))), (0, .ref (r (13))), (1, .ref (r (k1)))]) C.1 C.2.1 dX4_encode_63 hl (by decide) rfl (fun ls hl => ?_)
          refine lv_iload C.1 C.2.1 dX4_encode_65 (lv_at hl 0 rfl) ?_
          refine lv_aload_n C.1 C.2.1 dX4_encode_67 rfl (lv_at hl 3 rfl) ?_
          refine m_get C w (k := 13) (j := 1) (v := .ref (r (15))) flX4_15 (by decide) rfl rfl dX4_encode_68 ?_
          refine lv_iload_n C.1 C.2.1 dX4_encode_71 rfl (lv_at hl 1 rfl) ?_
          refine m_csv C w hl csX4_126 (As := [.int (x4_9), .ref (r (15)), .int (nI ((mm_lim t) / 8))]) (rest := []) (c_X1_storeLittle l D b0 r M_6 (x4_9) 15 ((mm_lim t) / 8) (by decide) rfl (by decide) (by omega)) rfl rfl (Nat.le_of_ble_eq_true rfl) ⟨Nat.le_of_ble_eq_true rfl, Nat.le_of_ble_eq_true rfl⟩ ⟨Nat.zero_le _, Nat.zero_le _⟩ dX4_encode_72 (fun M_10 H locs eM_10 w => ?_)
          refine lv_iinc (v := (nI (t + 1))) (lv' := [(2, .int (nI (t + 1))), (4, .int (x4_9)), (3, .int (nI ((mm_lim t) / 8))), (0, .ref (r (13))), (1, .ref (r (k1)))]) C.1 C.2.1 dX4_encode_75 hl (k := 2) rfl (nI_add t 1) (by decide) rfl (fun ls hl => ?_)
          refine lv_goto (tgt := 27) C.1 C.2.1 dX4_encode_78 (by decide) ?_
          have h9 : lv_has ls 5 [(2, .int (nI (t + 1))), (0, .ref (r (13))), (1, .ref (r (k1)))] := lv_sub hl [0, 3, 4] rfl
          have hlZ : lv_has ls 5 [(2, .int (nI (t + 1))), (0, .ref (r (13))), (1, .ref (r (k1)))] := h9
          have wZ := w
          subst eM_6 ex4_9 eM_10
          refine ih (t + 1) (by omega) _ _ _ (wZ) ?_
          exact hlZ
      exact loop 10 0 (by omega) _ _ ls w hl
    | succ k ih =>
      intro t ht H locs ls w hl
      obtain ⟨M_11, eM_11⟩ : ∃ zz, zz = f_X4_encode_L6 M_1 t := ⟨_, rfl⟩
      rw [← eM_11] at w
      refine lv_iload_n C.1 C.2.1 dX4_encode_6 rfl (lv_at hl 0 rfl) ?_
      refine lv_bipush (v := 32) C.1 C.2.1 dX4_encode_7 (by decide) ?_
      refine m_icmp_ge (tgt := 25) (a := t) (b := 32) C (by omega) (by omega) dX4_encode_9 (by decide) (fun h_12 => absurd h_12 (by omega)) (fun _ => ?_)
      refine lv_aload_n C.1 C.2.1 dX4_encode_12 rfl (lv_at hl 1 rfl) ?_
      refine m_get C w (k := 13) (j := 1) (v := .ref (r (15))) flX4_15 (by decide) rfl rfl dX4_encode_13 ?_
      refine lv_iload_n C.1 C.2.1 dX4_encode_16 rfl (lv_at hl 0 rfl) ?_
      refine lv_iconst (v := 0) C.1 C.2.1 dX4_encode_17 (by decide) ?_
      refine m_bast C w (k := 15) (i := t) (n := 32) (x := (0 : Int32)) (by decide) rfl (by omega) (by decide) (by decide) dX4_encode_18 (fun H locs w => ?_)
      obtain ⟨M_13, eM_13⟩ : ∃ zz, zz = mm_w M_11 15 t (0 : Int32) := ⟨_, rfl⟩
      rw [← eM_13] at w
      refine lv_iinc (v := (nI (t + 1))) (lv' := [(2, .int (nI (t + 1))), (0, .ref (r (13))), (1, .ref (r (k1)))]) C.1 C.2.1 dX4_encode_19 hl (k := 0) rfl (nI_add t 1) (by decide) rfl (fun ls hl => ?_)
      refine lv_goto (tgt := 6) C.1 C.2.1 dX4_encode_22 (by decide) ?_
      have h9 : lv_has ls 5 [(2, .int (nI (t + 1))), (0, .ref (r (13))), (1, .ref (r (k1)))] := lv_sub hl [0, 1, 2] rfl
      have hlZ : lv_has ls 5 [(2, .int (nI (t + 1))), (0, .ref (r (13))), (1, .ref (r (k1)))] := h9
      have wZ := w
      subst eM_11 eM_13
      refine ih (t + 1) (by omega) _ _ _ (wZ) ?_
      exact hlZ
  exact loop 32 0 (by omega) _ _ ls w hl

def f_X4_multiply (k1 : Nat) (k2 : Nat) (M : mm_M) : mm_M :=
  let M_1 := f_X4_decodeScalar k1 M
  let M_2 := f_X4_decodePoint k2 M_1
  let M_3 := f_X4_climb M_2
  let M_4 := f_X4_invert 21 18 M_3
  let M_5 := f_X4_multiplyLimbs 17 17 21 M_4
  let M_6 := f_X4_encode 17 M_5
  M_6
theorem w_f_X4_multiply (k1 : Nat) (k2 : Nat) (M : mm_M) : mm_fr [14, 16, 17, 18, 19, 20, 22, 21, 15] M (f_X4_multiply k1 k2 M) := by
  unfold f_X4_multiply
  exact ((w_f_X4_encode _ _).on (by simp) ((w_f_X4_multiplyLimbs _ _ _ _).on (by simp) ((w_f_X4_invert _ _ _).on (by simp) ((w_f_X4_climb _).on (by simp) ((w_f_X4_decodePoint _ _).on (by simp) ((w_f_X4_decodeScalar _ _).on (by simp) (mm_fr_refl _ _)))))))
set_option maxHeartbeats 4000000 in
set_option maxRecDepth 100000 in
theorem c_X4_multiply (l : Launch) (D : va_G) (b0 : Nat) (r : Nat → Nat) (M : mm_M) (k1 : Nat) (k2 : Nat) {n1 : Nat} {w1 : Bool} (hk1 : k1 < 181) (hs1 : mm_sh k1 = .inl (.byte, n1, w1)) (hn1 : n1 < 2 ^ 31) (hp1 : 32 ≤ n1) {n2 : Nat} {w2 : Bool} (hk2 : k2 < 181) (hs2 : mm_sh k2 = .inl (.byte, n2, w2)) (hn2 : n2 < 2 ^ 31) (hp2 : 32 ≤ n2) : mm_Mr l yX4_multiply cX4_multiply 3 (.array .byte) 4 160 D b0 r [.ref (r (13)), .ref (r (k1)), .ref (r (k2))] M 15 (fun M' => M' = f_X4_multiply k1 k2 M) := by
  refine mm_enter (cc := cX4_multiply) (nL := 3) (ret := (some (.array .byte))) (by decide) (Nat.le_of_ble_eq_true rfl) ?_
  intro p e s m args below meth c C w ls hl
  have hl : lv_has ls 3 [(0, .ref (r (13))), (1, .ref (r (k1))), (2, .ref (r (k2)))] := hl
  refine lv_aload_n C.1 C.2.1 dX4_multiply_0 rfl (lv_at hl 0 rfl) ?_
  refine lv_aload_n C.1 C.2.1 dX4_multiply_1 rfl (lv_at hl 1 rfl) ?_
  refine m_cvv C w hl cvX4_47 (k := 13) (by decide) rfl (q := (RX4, TX4, 9)) rfl rfl (As := [.ref (r (k1))]) (rest := []) (c_X4_decodeScalar l D b0 r M k1 hk1 hs1 hn1 (by omega)) rfl rfl (Nat.le_of_ble_eq_true rfl) ⟨Nat.le_of_ble_eq_true rfl, Nat.le_of_ble_eq_true rfl⟩ ⟨Nat.zero_le _, Nat.zero_le _⟩ dX4_multiply_2 (fun M_1 H locs eM_1 w => ?_)
  refine lv_aload_n C.1 C.2.1 dX4_multiply_5 rfl (lv_at hl 0 rfl) ?_
  refine lv_aload_n C.1 C.2.1 dX4_multiply_6 rfl (lv_at hl 2 rfl) ?_
  refine m_cvv C w hl cvX4_51 (k := 13) (by decide) rfl (q := (RX4, TX4, 9)) rfl rfl (As := [.ref (r (k2))]) (rest := []) (c_X4_decodePoint l D b0 r M_1 k2 hk2 hs2 hn2 (by omega)) rfl rfl (Nat.le_of_ble_eq_true rfl) ⟨Nat.le_of_ble_eq_true rfl, Nat.le_of_ble_eq_true rfl⟩ ⟨Nat.zero_le _, Nat.zero_le _⟩ dX4_multiply_7 (fun M_2 H locs eM_2 w => ?_)
  refine lv_aload_n C.1 C.2.1 dX4_multiply_10 rfl (lv_at hl 0 rfl) ?_
  refine m_cvv C w hl cvX4_54 (k := 13) (by decide) rfl (q := (RX4, TX4, 9)) rfl rfl (As := []) (rest := []) (c_X4_climb l D b0 r M_2  ) rfl rfl (Nat.le_of_ble_eq_true rfl) ⟨Nat.le_of_ble_eq_true rfl, Nat.le_of_ble_eq_true rfl⟩ ⟨Nat.zero_le _, Nat.zero_le _⟩ dX4_multiply_11 (fun M_3 H locs eM_3 w => ?_)
  refine lv_aload_n C.1 C.2.1 dX4_multiply_14 rfl (lv_at hl 0 rfl) ?_
  refine m_get C w (k := 13) (j := 7) (v := .ref (r (21))) flX4_34 (by decide) rfl rfl dX4_multiply_15 ?_
  refine lv_aload_n C.1 C.2.1 dX4_multiply_18 rfl (lv_at hl 0 rfl) ?_
  refine m_get C w (k := 13) (j := 4) (v := .ref (r (18))) flX4_25 (by decide) rfl rfl dX4_multiply_19 ?_
  refine m_csv C w hl csX4_57 (As := [.ref (r (21)), .ref (r (18))]) (rest := []) (c_X4_invert l D b0 r M_3 21 18 (by decide) rfl (by decide) (by omega) (by decide) rfl (by decide) (by omega)) rfl rfl (Nat.le_of_ble_eq_true rfl) ⟨Nat.le_of_ble_eq_true rfl, Nat.le_of_ble_eq_true rfl⟩ ⟨Nat.zero_le _, Nat.zero_le _⟩ dX4_multiply_22 (fun M_4 H locs eM_4 w => ?_)
  refine lv_aload_n C.1 C.2.1 dX4_multiply_25 rfl (lv_at hl 0 rfl) ?_
  refine m_get C w (k := 13) (j := 3) (v := .ref (r (17))) flX4_22 (by decide) rfl rfl dX4_multiply_26 ?_
  refine lv_aload_n C.1 C.2.1 dX4_multiply_29 rfl (lv_at hl 0 rfl) ?_
  refine m_get C w (k := 13) (j := 3) (v := .ref (r (17))) flX4_22 (by decide) rfl rfl dX4_multiply_30 ?_
  refine lv_aload_n C.1 C.2.1 dX4_multiply_33 rfl (lv_at hl 0 rfl) ?_
  refine m_get C w (k := 13) (j := 7) (v := .ref (r (21))) flX4_34 (by decide) rfl rfl dX4_multiply_34 ?_
  refine m_csv C w hl csX4_61 (As := [.ref (r (17)), .ref (r (17)), .ref (r (21))]) (rest := []) (c_X4_multiplyLimbs l D b0 r M_4 17 17 21 (by decide) rfl (by decide) (by omega) (by decide) rfl (by decide) (by omega) (by decide) rfl (by decide) (by omega)) rfl rfl (Nat.le_of_ble_eq_true rfl) ⟨Nat.le_of_ble_eq_true rfl, Nat.le_of_ble_eq_true rfl⟩ ⟨Nat.zero_le _, Nat.zero_le _⟩ dX4_multiply_37 (fun M_5 H locs eM_5 w => ?_)
  refine lv_aload_n C.1 C.2.1 dX4_multiply_40 rfl (lv_at hl 0 rfl) ?_
  refine lv_aload_n C.1 C.2.1 dX4_multiply_41 rfl (lv_at hl 0 rfl) ?_
  refine m_get C w (k := 13) (j := 3) (v := .ref (r (17))) flX4_22 (by decide) rfl rfl dX4_multiply_42 ?_
  refine m_cvv C w hl cvX4_65 (k := 13) (by decide) rfl (q := (RX4, TX4, 9)) rfl rfl (As := [.ref (r (17))]) (rest := []) (c_X4_encode l D b0 r M_5 17 (by decide) rfl (by decide) (by omega)) rfl rfl (Nat.le_of_ble_eq_true rfl) ⟨Nat.le_of_ble_eq_true rfl, Nat.le_of_ble_eq_true rfl⟩ ⟨Nat.zero_le _, Nat.zero_le _⟩ dX4_multiply_45 (fun M_6 H locs eM_6 w => ?_)
  refine lv_aload_n C.1 C.2.1 dX4_multiply_48 rfl (lv_at hl 0 rfl) ?_
  refine m_get C w (k := 13) (j := 1) (v := .ref (r (15))) flX4_15 (by decide) rfl rfl dX4_multiply_49 ?_
  exact m_aret C w (by subst eM_1 eM_2 eM_3 eM_4 eM_5 eM_6; exact Eq.symm (rfl)) dX4_multiply_52

def f_X4_publicKey (k1 : Nat) (M : mm_M) : mm_M :=
  let M_1 := f_X4_multiply k1 173 M
  M_1
theorem w_f_X4_publicKey (k1 : Nat) (M : mm_M) : mm_fr [14, 16, 17, 18, 19, 20, 22, 21, 15] M (f_X4_publicKey k1 M) := by
  unfold f_X4_publicKey
  exact ((w_f_X4_multiply _ _ _).on (by simp) (mm_fr_refl _ _))
set_option maxHeartbeats 4000000 in
set_option maxRecDepth 100000 in
theorem c_X4_publicKey (l : Launch) (D : va_G) (b0 : Nat) (r : Nat → Nat) (M : mm_M) (k1 : Nat) {n1 : Nat} {w1 : Bool} (hk1 : k1 < 181) (hs1 : mm_sh k1 = .inl (.byte, n1, w1)) (hn1 : n1 < 2 ^ 31) (hp1 : 32 ≤ n1) : mm_Mr l yX4_publicKey cX4_publicKey 2 (.array .byte) 5 182 D b0 r [.ref (r (13)), .ref (r (k1))] M 15 (fun M' => M' = f_X4_publicKey k1 M) := by
  refine mm_enter (cc := cX4_publicKey) (nL := 2) (ret := (some (.array .byte))) (by decide) (Nat.le_of_ble_eq_true rfl) ?_
  intro p e s m args below meth c C w ls hl
  have hl : lv_has ls 2 [(0, .ref (r (13))), (1, .ref (r (k1)))] := hl
  refine lv_aload_n C.1 C.2.1 dX4_publicKey_0 rfl (lv_at hl 0 rfl) ?_
  refine lv_aload_n C.1 C.2.1 dX4_publicKey_1 rfl (lv_at hl 1 rfl) ?_
  refine m_gets C w C.2.2.2.2.2.2.2.1.1 fsX4_40 dX4_publicKey_2 ?_
  refine m_cvr C w hl cvX4_43 (k := 13) (by decide) rfl (q := (RX4, TX4, 9)) rfl rfl (As := [.ref (r (k1)), .ref (r (173))]) (rest := []) (c_X4_multiply l D b0 r M k1 173 hk1 hs1 hn1 (by omega) (by decide) rfl (by decide) (by omega)) rfl rfl (Nat.le_of_ble_eq_true rfl) ⟨Nat.le_of_ble_eq_true rfl, Nat.le_of_ble_eq_true rfl⟩ ⟨Nat.zero_le _, Nat.zero_le _⟩ dX4_publicKey_5 (fun M_1 H locs eM_1 w => ?_)
  exact m_aret C w (by subst eM_1; exact Eq.symm (rfl)) dX4_publicKey_8

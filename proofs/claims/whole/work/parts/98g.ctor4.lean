set_option maxHeartbeats 4000000 in
set_option maxRecDepth 100000 in
theorem k_X12_init (l : Launch) (D : va_G) (b0 : Nat) (r : Nat → Nat) (hr : ∀ k, k < 173 → r k = b0 + k) : n_M l yX12_init cX12_init 1 1 12 55 8334 D b0 r [.ref (r (117))] (117) 11 (fun _ => True) := by
  refine n_enter hr (by decide) rfl (Nat.le_of_ble_eq_true rfl) ?_
  intro p e s m args below meth c C w hsz hpre ls hl
  have C : n_C p c cX12_init 1 RX12 m meth s args D b0 r := C
  have hl : lv_has ls 1 [(0, .ref (r (117)))] := hl
  refine lv_aload_n C.1 C.2.1 dX12_init_0 rfl (lv_at hl 0 rfl) ?_
  refine n_init C hl (in_r7 _ (List.mem_of_getElem? (i := 11) rfl)) n_oi1 n_oi2 ⟨by decide, by decide⟩ dX12_init_1 ?_
  refine lv_aload_n C.1 C.2.1 dX12_init_4 rfl (lv_at hl 0 rfl) ?_
  refine lv_sipush (v := 1000) C.1 C.2.1 dX12_init_5 (by decide) ?_
  refine n_newa (atype := .byte) (n := 1000) C w rfl (by unfold n_z; decide) (by simp) n_ac_byte (by decide) ⟨by simp [n_rm], by simp [n_rm]⟩ dX12_init_8 (fun H w => ?_)
  have w : n_W D b0 r 0 (117) 11 [.null, .null, .null, .null, .int 0, .int 0, .null, .null, .null, .null, .null, .null, .null, .null, .int 0, .null, .null, .null, .null, .null, .null, .null, .null, .null, .null, .null, .null, .null, .null, .null, .null, .null, .null, .null, .null, .null, .null, .null, .null, .null, .null, .null, .null, .null, .null, .null, .null, .null, .null, .null, .null, .null, .null, .null, .null, .null, .null, .null] (119) s H [] := w
  refine W.widen (k := 1) (n := 1000) (by omega) (by omega) ?_
  refine n_putF C w (v := (.ref (r (118)))) nlX12_7 (by decide) (by decide) (Nat.le_of_ble_eq_true rfl) rfl rfl dX12_init_10 (fun H locs w => ?_)
  have w : n_W D b0 r 0 (117) 11 [.ref (r (118)), .null, .null, .null, .int 0, .int 0, .null, .null, .null, .null, .null, .null, .null, .null, .int 0, .null, .null, .null, .null, .null, .null, .null, .null, .null, .null, .null, .null, .null, .null, .null, .null, .null, .null, .null, .null, .null, .null, .null, .null, .null, .null, .null, .null, .null, .null, .null, .null, .null, .null, .null, .null, .null, .null, .null, .null, .null, .null, .null] (119) s H locs := w
  refine lv_aload_n C.1 C.2.1 dX12_init_13 rfl (lv_at hl 0 rfl) ?_
  refine lv_sipush (v := 1000) C.1 C.2.1 dX12_init_14 (by decide) ?_
  refine n_newa (atype := .byte) (n := 1000) C w rfl (by unfold n_z; decide) (by simp) n_ac_byte (by decide) ⟨by simp [n_rm], by simp [n_rm]⟩ dX12_init_17 (fun H w => ?_)
  have w : n_W D b0 r 0 (117) 11 [.ref (r (118)), .null, .null, .null, .int 0, .int 0, .null, .null, .null, .null, .null, .null, .null, .null, .int 0, .null, .null, .null, .null, .null, .null, .null, .null, .null, .null, .null, .null, .null, .null, .null, .null, .null, .null, .null, .null, .null, .null, .null, .null, .null, .null, .null, .null, .null, .null, .null, .null, .null, .null, .null, .null, .null, .null, .null, .null, .null, .null, .null] (120) s H locs := w
  refine W.widen (k := 2) (n := 2000) (by omega) (by omega) ?_
  refine n_putF C w (v := (.ref (r (119)))) nlX12_13 (by decide) (by decide) (Nat.le_of_ble_eq_true rfl) rfl rfl dX12_init_19 (fun H locs w => ?_)
  have w : n_W D b0 r 0 (117) 11 [.ref (r (118)), .ref (r (119)), .null, .null, .int 0, .int 0, .null, .null, .null, .null, .null, .null, .null, .null, .int 0, .null, .null, .null, .null, .null, .null, .null, .null, .null, .null, .null, .null, .null, .null, .null, .null, .null, .null, .null, .null, .null, .null, .null, .null, .null, .null, .null, .null, .null, .null, .null, .null, .null, .null, .null, .null, .null, .null, .null, .null, .null, .null, .null] (120) s H locs := w
  refine lv_aload_n C.1 C.2.1 dX12_init_22 rfl (lv_at hl 0 rfl) ?_
  refine lv_sipush (v := 1100) C.1 C.2.1 dX12_init_23 (by decide) ?_
  refine n_newa (atype := .byte) (n := 1100) C w rfl (by unfold n_z; decide) (by simp) n_ac_byte (by decide) ⟨by simp [n_rm], by simp [n_rm]⟩ dX12_init_26 (fun H w => ?_)
  have w : n_W D b0 r 0 (117) 11 [.ref (r (118)), .ref (r (119)), .null, .null, .int 0, .int 0, .null, .null, .null, .null, .null, .null, .null, .null, .int 0, .null, .null, .null, .null, .null, .null, .null, .null, .null, .null, .null, .null, .null, .null, .null, .null, .null, .null, .null, .null, .null, .null, .null, .null, .null, .null, .null, .null, .null, .null, .null, .null, .null, .null, .null, .null, .null, .null, .null, .null, .null, .null, .null] (121) s H locs := w
  refine W.widen (k := 3) (n := 3100) (by omega) (by omega) ?_
  refine n_putF C w (v := (.ref (r (120)))) nlX12_16 (by decide) (by decide) (Nat.le_of_ble_eq_true rfl) rfl rfl dX12_init_28 (fun H locs w => ?_)
  have w : n_W D b0 r 0 (117) 11 [.ref (r (118)), .ref (r (119)), .ref (r (120)), .null, .int 0, .int 0, .null, .null, .null, .null, .null, .null, .null, .null, .int 0, .null, .null, .null, .null, .null, .null, .null, .null, .null, .null, .null, .null, .null, .null, .null, .null, .null, .null, .null, .null, .null, .null, .null, .null, .null, .null, .null, .null, .null, .null, .null, .null, .null, .null, .null, .null, .null, .null, .null, .null, .null, .null, .null] (121) s H locs := w
  refine lv_aload_n C.1 C.2.1 dX12_init_31 rfl (lv_at hl 0 rfl) ?_
  refine lv_sipush (v := 1000) C.1 C.2.1 dX12_init_32 (by decide) ?_
  refine n_newa (atype := .byte) (n := 1000) C w rfl (by unfold n_z; decide) (by simp) n_ac_byte (by decide) ⟨by simp [n_rm], by simp [n_rm]⟩ dX12_init_35 (fun H w => ?_)
  have w : n_W D b0 r 0 (117) 11 [.ref (r (118)), .ref (r (119)), .ref (r (120)), .null, .int 0, .int 0, .null, .null, .null, .null, .null, .null, .null, .null, .int 0, .null, .null, .null, .null, .null, .null, .null, .null, .null, .null, .null, .null, .null, .null, .null, .null, .null, .null, .null, .null, .null, .null, .null, .null, .null, .null, .null, .null, .null, .null, .null, .null, .null, .null, .null, .null, .null, .null, .null, .null, .null, .null, .null] (122) s H locs := w
  refine W.widen (k := 4) (n := 4100) (by omega) (by omega) ?_
  refine n_putF C w (v := (.ref (r (121)))) nlX12_19 (by decide) (by decide) (Nat.le_of_ble_eq_true rfl) rfl rfl dX12_init_37 (fun H locs w => ?_)
  have w : n_W D b0 r 0 (117) 11 [.ref (r (118)), .ref (r (119)), .ref (r (120)), .ref (r (121)), .int 0, .int 0, .null, .null, .null, .null, .null, .null, .null, .null, .int 0, .null, .null, .null, .null, .null, .null, .null, .null, .null, .null, .null, .null, .null, .null, .null, .null, .null, .null, .null, .null, .null, .null, .null, .null, .null, .null, .null, .null, .null, .null, .null, .null, .null, .null, .null, .null, .null, .null, .null, .null, .null, .null, .null] (122) s H locs := w
  refine lv_aload_n C.1 C.2.1 dX12_init_40 rfl (lv_at hl 0 rfl) ?_
  refine lv_sipush (v := 256) C.1 C.2.1 dX12_init_41 (by decide) ?_
  refine n_newa (atype := .byte) (n := 256) C w rfl (by unfold n_z; decide) (by simp) n_ac_byte (by decide) ⟨by simp [n_rm], by simp [n_rm]⟩ dX12_init_44 (fun H w => ?_)
  have w : n_W D b0 r 0 (117) 11 [.ref (r (118)), .ref (r (119)), .ref (r (120)), .ref (r (121)), .int 0, .int 0, .null, .null, .null, .null, .null, .null, .null, .null, .int 0, .null, .null, .null, .null, .null, .null, .null, .null, .null, .null, .null, .null, .null, .null, .null, .null, .null, .null, .null, .null, .null, .null, .null, .null, .null, .null, .null, .null, .null, .null, .null, .null, .null, .null, .null, .null, .null, .null, .null, .null, .null, .null, .null] (123) s H locs := w
  refine W.widen (k := 5) (n := 4356) (by omega) (by omega) ?_
  refine n_putF C w (v := (.ref (r (122)))) nlX12_22 (by decide) (by decide) (Nat.le_of_ble_eq_true rfl) rfl rfl dX12_init_46 (fun H locs w => ?_)
  have w : n_W D b0 r 0 (117) 11 [.ref (r (118)), .ref (r (119)), .ref (r (120)), .ref (r (121)), .int 0, .int 0, .ref (r (122)), .null, .null, .null, .null, .null, .null, .null, .int 0, .null, .null, .null, .null, .null, .null, .null, .null, .null, .null, .null, .null, .null, .null, .null, .null, .null, .null, .null, .null, .null, .null, .null, .null, .null, .null, .null, .null, .null, .null, .null, .null, .null, .null, .null, .null, .null, .null, .null, .null, .null, .null, .null] (123) s H locs := w
  refine lv_aload_n C.1 C.2.1 dX12_init_49 rfl (lv_at hl 0 rfl) ?_
  refine lv_bipush (v := 64) C.1 C.2.1 dX12_init_50 (by decide) ?_
  refine n_newo (n := 64) C w (mm_tab 176) (by decide) (by decide) ⟨by simp [n_rm], by simp [n_rm]⟩ dX12_init_52 (fun H w => ?_)
  refine W.widen (k := 6) (n := 4420) (by omega) (by omega) ?_
  refine lv_dup C.1 C.2.1 dX12_init_54 rfl ?_
  refine lv_iconst (v := 0) C.1 C.2.1 dX12_init_55 (by decide) ?_
  refine lv_ldc (v := (1116352408)) C.1 C.2.1 C.2.2.2.1 (C.2.2.2.2.1 _ kkX12_25) dX12_init_56 ?_
  refine n_ia (t := 0) (n := 64) C w (by decide) (by decide) (by decide) (by decide) dX12_init_58 (fun H locs w => ?_)
  refine lv_dup C.1 C.2.1 dX12_init_59 rfl ?_
  refine lv_iconst (v := 1) C.1 C.2.1 dX12_init_60 (by decide) ?_
  refine lv_ldc (v := (1899447441)) C.1 C.2.1 C.2.2.2.1 (C.2.2.2.2.1 _ kkX12_26) dX12_init_61 ?_
  refine n_ia (t := 1) (n := 64) C w (by decide) (by decide) (by decide) (by decide) dX12_init_63 (fun H locs w => ?_)
  refine lv_dup C.1 C.2.1 dX12_init_64 rfl ?_
  refine lv_iconst (v := 2) C.1 C.2.1 dX12_init_65 (by decide) ?_
  refine lv_ldc (v := (-1245643825)) C.1 C.2.1 C.2.2.2.1 (C.2.2.2.2.1 _ kkX12_27) dX12_init_66 ?_
  refine n_ia (t := 2) (n := 64) C w (by decide) (by decide) (by decide) (by decide) dX12_init_68 (fun H locs w => ?_)
  refine lv_dup C.1 C.2.1 dX12_init_69 rfl ?_
  refine lv_iconst (v := 3) C.1 C.2.1 dX12_init_70 (by decide) ?_
  refine lv_ldc (v := (-373957723)) C.1 C.2.1 C.2.2.2.1 (C.2.2.2.2.1 _ kkX12_28) dX12_init_71 ?_
  refine n_ia (t := 3) (n := 64) C w (by decide) (by decide) (by decide) (by decide) dX12_init_73 (fun H locs w => ?_)
  refine lv_dup C.1 C.2.1 dX12_init_74 rfl ?_
  refine lv_iconst (v := 4) C.1 C.2.1 dX12_init_75 (by decide) ?_
  refine lv_ldc (v := (961987163)) C.1 C.2.1 C.2.2.2.1 (C.2.2.2.2.1 _ kkX12_29) dX12_init_76 ?_
  refine n_ia (t := 4) (n := 64) C w (by decide) (by decide) (by decide) (by decide) dX12_init_78 (fun H locs w => ?_)
  refine lv_dup C.1 C.2.1 dX12_init_79 rfl ?_
  refine lv_iconst (v := 5) C.1 C.2.1 dX12_init_80 (by decide) ?_
  refine lv_ldc (v := (1508970993)) C.1 C.2.1 C.2.2.2.1 (C.2.2.2.2.1 _ kkX12_30) dX12_init_81 ?_
  refine n_ia (t := 5) (n := 64) C w (by decide) (by decide) (by decide) (by decide) dX12_init_83 (fun H locs w => ?_)
  refine lv_dup C.1 C.2.1 dX12_init_84 rfl ?_
  refine lv_bipush (v := 6) C.1 C.2.1 dX12_init_85 (by decide) ?_
  refine lv_ldc (v := (-1841331548)) C.1 C.2.1 C.2.2.2.1 (C.2.2.2.2.1 _ kkX12_31) dX12_init_87 ?_
  refine n_ia (t := 6) (n := 64) C w (by decide) (by decide) (by decide) (by decide) dX12_init_89 (fun H locs w => ?_)
  refine lv_dup C.1 C.2.1 dX12_init_90 rfl ?_
  refine lv_bipush (v := 7) C.1 C.2.1 dX12_init_91 (by decide) ?_
  refine lv_ldc (v := (-1424204075)) C.1 C.2.1 C.2.2.2.1 (C.2.2.2.2.1 _ kkX12_32) dX12_init_93 ?_
  refine n_ia (t := 7) (n := 64) C w (by decide) (by decide) (by decide) (by decide) dX12_init_95 (fun H locs w => ?_)
  refine lv_dup C.1 C.2.1 dX12_init_96 rfl ?_
  refine lv_bipush (v := 8) C.1 C.2.1 dX12_init_97 (by decide) ?_
  refine lv_ldc (v := (-670586216)) C.1 C.2.1 C.2.2.2.1 (C.2.2.2.2.1 _ kkX12_33) dX12_init_99 ?_
  refine n_ia (t := 8) (n := 64) C w (by decide) (by decide) (by decide) (by decide) dX12_init_101 (fun H locs w => ?_)
  refine lv_dup C.1 C.2.1 dX12_init_102 rfl ?_
  refine lv_bipush (v := 9) C.1 C.2.1 dX12_init_103 (by decide) ?_
  refine lv_ldc (v := (310598401)) C.1 C.2.1 C.2.2.2.1 (C.2.2.2.2.1 _ kkX12_34) dX12_init_105 ?_
  refine n_ia (t := 9) (n := 64) C w (by decide) (by decide) (by decide) (by decide) dX12_init_107 (fun H locs w => ?_)
  refine lv_dup C.1 C.2.1 dX12_init_108 rfl ?_
  refine lv_bipush (v := 10) C.1 C.2.1 dX12_init_109 (by decide) ?_
  refine lv_ldc (v := (607225278)) C.1 C.2.1 C.2.2.2.1 (C.2.2.2.2.1 _ kkX12_35) dX12_init_111 ?_
  refine n_ia (t := 10) (n := 64) C w (by decide) (by decide) (by decide) (by decide) dX12_init_113 (fun H locs w => ?_)
  refine lv_dup C.1 C.2.1 dX12_init_114 rfl ?_
  refine lv_bipush (v := 11) C.1 C.2.1 dX12_init_115 (by decide) ?_
  refine lv_ldc (v := (1426881987)) C.1 C.2.1 C.2.2.2.1 (C.2.2.2.2.1 _ kkX12_36) dX12_init_117 ?_
  refine n_ia (t := 11) (n := 64) C w (by decide) (by decide) (by decide) (by decide) dX12_init_119 (fun H locs w => ?_)
  refine lv_dup C.1 C.2.1 dX12_init_120 rfl ?_
  refine lv_bipush (v := 12) C.1 C.2.1 dX12_init_121 (by decide) ?_
  refine lv_ldc (v := (1925078388)) C.1 C.2.1 C.2.2.2.1 (C.2.2.2.2.1 _ kkX12_37) dX12_init_123 ?_
  refine n_ia (t := 12) (n := 64) C w (by decide) (by decide) (by decide) (by decide) dX12_init_125 (fun H locs w => ?_)
  refine lv_dup C.1 C.2.1 dX12_init_126 rfl ?_
  refine lv_bipush (v := 13) C.1 C.2.1 dX12_init_127 (by decide) ?_
  refine lv_ldc (v := (-2132889090)) C.1 C.2.1 C.2.2.2.1 (C.2.2.2.2.1 _ kkX12_38) dX12_init_129 ?_
  refine n_ia (t := 13) (n := 64) C w (by decide) (by decide) (by decide) (by decide) dX12_init_131 (fun H locs w => ?_)
  refine lv_dup C.1 C.2.1 dX12_init_132 rfl ?_
  refine lv_bipush (v := 14) C.1 C.2.1 dX12_init_133 (by decide) ?_
  refine lv_ldc (v := (-1680079193)) C.1 C.2.1 C.2.2.2.1 (C.2.2.2.2.1 _ kkX12_39) dX12_init_135 ?_
  refine n_ia (t := 14) (n := 64) C w (by decide) (by decide) (by decide) (by decide) dX12_init_137 (fun H locs w => ?_)
  refine lv_dup C.1 C.2.1 dX12_init_138 rfl ?_
  refine lv_bipush (v := 15) C.1 C.2.1 dX12_init_139 (by decide) ?_
  refine lv_ldc (v := (-1046744716)) C.1 C.2.1 C.2.2.2.1 (C.2.2.2.2.1 _ kkX12_40) dX12_init_141 ?_
  refine n_ia (t := 15) (n := 64) C w (by decide) (by decide) (by decide) (by decide) dX12_init_143 (fun H locs w => ?_)
  refine lv_dup C.1 C.2.1 dX12_init_144 rfl ?_
  refine lv_bipush (v := 16) C.1 C.2.1 dX12_init_145 (by decide) ?_
  refine lv_ldc (v := (-459576895)) C.1 C.2.1 C.2.2.2.1 (C.2.2.2.2.1 _ kkX12_41) dX12_init_147 ?_
  refine n_ia (t := 16) (n := 64) C w (by decide) (by decide) (by decide) (by decide) dX12_init_149 (fun H locs w => ?_)
  refine lv_dup C.1 C.2.1 dX12_init_150 rfl ?_
  refine lv_bipush (v := 17) C.1 C.2.1 dX12_init_151 (by decide) ?_
  refine lv_ldc (v := (-272742522)) C.1 C.2.1 C.2.2.2.1 (C.2.2.2.2.1 _ kkX12_42) dX12_init_153 ?_
  refine n_ia (t := 17) (n := 64) C w (by decide) (by decide) (by decide) (by decide) dX12_init_155 (fun H locs w => ?_)
  refine lv_dup C.1 C.2.1 dX12_init_156 rfl ?_
  refine lv_bipush (v := 18) C.1 C.2.1 dX12_init_157 (by decide) ?_
  refine lv_ldc (v := (264347078)) C.1 C.2.1 C.2.2.2.1 (C.2.2.2.2.1 _ kkX12_43) dX12_init_159 ?_
  refine n_ia (t := 18) (n := 64) C w (by decide) (by decide) (by decide) (by decide) dX12_init_161 (fun H locs w => ?_)
  refine lv_dup C.1 C.2.1 dX12_init_162 rfl ?_
  refine lv_bipush (v := 19) C.1 C.2.1 dX12_init_163 (by decide) ?_
  refine lv_ldc (v := (604807628)) C.1 C.2.1 C.2.2.2.1 (C.2.2.2.2.1 _ kkX12_44) dX12_init_165 ?_
  refine n_ia (t := 19) (n := 64) C w (by decide) (by decide) (by decide) (by decide) dX12_init_167 (fun H locs w => ?_)
  refine lv_dup C.1 C.2.1 dX12_init_168 rfl ?_
  refine lv_bipush (v := 20) C.1 C.2.1 dX12_init_169 (by decide) ?_
  refine lv_ldc (v := (770255983)) C.1 C.2.1 C.2.2.2.1 (C.2.2.2.2.1 _ kkX12_45) dX12_init_171 ?_
  refine n_ia (t := 20) (n := 64) C w (by decide) (by decide) (by decide) (by decide) dX12_init_173 (fun H locs w => ?_)
  refine lv_dup C.1 C.2.1 dX12_init_174 rfl ?_
  refine lv_bipush (v := 21) C.1 C.2.1 dX12_init_175 (by decide) ?_
  refine lv_ldc (v := (1249150122)) C.1 C.2.1 C.2.2.2.1 (C.2.2.2.2.1 _ kkX12_46) dX12_init_177 ?_
  refine n_ia (t := 21) (n := 64) C w (by decide) (by decide) (by decide) (by decide) dX12_init_179 (fun H locs w => ?_)
  refine lv_dup C.1 C.2.1 dX12_init_180 rfl ?_
  refine lv_bipush (v := 22) C.1 C.2.1 dX12_init_181 (by decide) ?_
  refine lv_ldc (v := (1555081692)) C.1 C.2.1 C.2.2.2.1 (C.2.2.2.2.1 _ kkX12_47) dX12_init_183 ?_
  refine n_ia (t := 22) (n := 64) C w (by decide) (by decide) (by decide) (by decide) dX12_init_185 (fun H locs w => ?_)
  refine lv_dup C.1 C.2.1 dX12_init_186 rfl ?_
  refine lv_bipush (v := 23) C.1 C.2.1 dX12_init_187 (by decide) ?_
  refine lv_ldc (v := (1996064986)) C.1 C.2.1 C.2.2.2.1 (C.2.2.2.2.1 _ kkX12_48) dX12_init_189 ?_
  refine n_ia (t := 23) (n := 64) C w (by decide) (by decide) (by decide) (by decide) dX12_init_191 (fun H locs w => ?_)
  refine lv_dup C.1 C.2.1 dX12_init_192 rfl ?_
  refine lv_bipush (v := 24) C.1 C.2.1 dX12_init_193 (by decide) ?_
  refine lv_ldc (v := (-1740746414)) C.1 C.2.1 C.2.2.2.1 (C.2.2.2.2.1 _ kkX12_49) dX12_init_195 ?_
  refine n_ia (t := 24) (n := 64) C w (by decide) (by decide) (by decide) (by decide) dX12_init_197 (fun H locs w => ?_)
  refine lv_dup C.1 C.2.1 dX12_init_198 rfl ?_
  refine lv_bipush (v := 25) C.1 C.2.1 dX12_init_199 (by decide) ?_
  refine lv_ldc (v := (-1473132947)) C.1 C.2.1 C.2.2.2.1 (C.2.2.2.2.1 _ kkX12_50) dX12_init_201 ?_
  refine n_ia (t := 25) (n := 64) C w (by decide) (by decide) (by decide) (by decide) dX12_init_203 (fun H locs w => ?_)
  refine lv_dup C.1 C.2.1 dX12_init_204 rfl ?_
  refine lv_bipush (v := 26) C.1 C.2.1 dX12_init_205 (by decide) ?_
  refine lv_ldc (v := (-1341970488)) C.1 C.2.1 C.2.2.2.1 (C.2.2.2.2.1 _ kkX12_51) dX12_init_207 ?_
  refine n_ia (t := 26) (n := 64) C w (by decide) (by decide) (by decide) (by decide) dX12_init_209 (fun H locs w => ?_)
  refine lv_dup C.1 C.2.1 dX12_init_210 rfl ?_
  refine lv_bipush (v := 27) C.1 C.2.1 dX12_init_211 (by decide) ?_
  refine lv_ldc (v := (-1084653625)) C.1 C.2.1 C.2.2.2.1 (C.2.2.2.2.1 _ kkX12_52) dX12_init_213 ?_
  refine n_ia (t := 27) (n := 64) C w (by decide) (by decide) (by decide) (by decide) dX12_init_215 (fun H locs w => ?_)
  refine lv_dup C.1 C.2.1 dX12_init_216 rfl ?_
  refine lv_bipush (v := 28) C.1 C.2.1 dX12_init_217 (by decide) ?_
  refine lv_ldc (v := (-958395405)) C.1 C.2.1 C.2.2.2.1 (C.2.2.2.2.1 _ kkX12_53) dX12_init_219 ?_
  refine n_ia (t := 28) (n := 64) C w (by decide) (by decide) (by decide) (by decide) dX12_init_221 (fun H locs w => ?_)
  refine lv_dup C.1 C.2.1 dX12_init_222 rfl ?_
  refine lv_bipush (v := 29) C.1 C.2.1 dX12_init_223 (by decide) ?_
  refine lv_ldc (v := (-710438585)) C.1 C.2.1 C.2.2.2.1 (C.2.2.2.2.1 _ kkX12_54) dX12_init_225 ?_
  refine n_ia (t := 29) (n := 64) C w (by decide) (by decide) (by decide) (by decide) dX12_init_227 (fun H locs w => ?_)
  refine lv_dup C.1 C.2.1 dX12_init_228 rfl ?_
  refine lv_bipush (v := 30) C.1 C.2.1 dX12_init_229 (by decide) ?_
  refine lv_ldc (v := (113926993)) C.1 C.2.1 C.2.2.2.1 (C.2.2.2.2.1 _ kkX12_55) dX12_init_231 ?_
  refine n_ia (t := 30) (n := 64) C w (by decide) (by decide) (by decide) (by decide) dX12_init_233 (fun H locs w => ?_)
  refine lv_dup C.1 C.2.1 dX12_init_234 rfl ?_
  refine lv_bipush (v := 31) C.1 C.2.1 dX12_init_235 (by decide) ?_
  refine lv_ldc (v := (338241895)) C.1 C.2.1 C.2.2.2.1 (C.2.2.2.2.1 _ kkX12_56) dX12_init_237 ?_
  refine n_ia (t := 31) (n := 64) C w (by decide) (by decide) (by decide) (by decide) dX12_init_239 (fun H locs w => ?_)
  refine lv_dup C.1 C.2.1 dX12_init_240 rfl ?_
  refine lv_bipush (v := 32) C.1 C.2.1 dX12_init_241 (by decide) ?_
  refine lv_ldc (v := (666307205)) C.1 C.2.1 C.2.2.2.1 (C.2.2.2.2.1 _ kkX12_57) dX12_init_243 ?_
  refine n_ia (t := 32) (n := 64) C w (by decide) (by decide) (by decide) (by decide) dX12_init_245 (fun H locs w => ?_)
  refine lv_dup C.1 C.2.1 dX12_init_246 rfl ?_
  refine lv_bipush (v := 33) C.1 C.2.1 dX12_init_247 (by decide) ?_
  refine lv_ldc (v := (773529912)) C.1 C.2.1 C.2.2.2.1 (C.2.2.2.2.1 _ kkX12_58) dX12_init_249 ?_
  refine n_ia (t := 33) (n := 64) C w (by decide) (by decide) (by decide) (by decide) dX12_init_251 (fun H locs w => ?_)
  refine lv_dup C.1 C.2.1 dX12_init_252 rfl ?_
  refine lv_bipush (v := 34) C.1 C.2.1 dX12_init_253 (by decide) ?_
  refine lv_ldc (v := (1294757372)) C.1 C.2.1 C.2.2.2.1 (C.2.2.2.2.1 _ kkX12_59) dX12_init_255 ?_
  refine n_ia (t := 34) (n := 64) C w (by decide) (by decide) (by decide) (by decide) dX12_init_257 (fun H locs w => ?_)
  refine lv_dup C.1 C.2.1 dX12_init_258 rfl ?_
  refine lv_bipush (v := 35) C.1 C.2.1 dX12_init_259 (by decide) ?_
  refine lv_ldc (v := (1396182291)) C.1 C.2.1 C.2.2.2.1 (C.2.2.2.2.1 _ kkX12_60) dX12_init_261 ?_
  refine n_ia (t := 35) (n := 64) C w (by decide) (by decide) (by decide) (by decide) dX12_init_263 (fun H locs w => ?_)
  refine lv_dup C.1 C.2.1 dX12_init_264 rfl ?_
  refine lv_bipush (v := 36) C.1 C.2.1 dX12_init_265 (by decide) ?_
  refine lv_ldc (v := (1695183700)) C.1 C.2.1 C.2.2.2.1 (C.2.2.2.2.1 _ kkX12_61) dX12_init_267 ?_
  refine n_ia (t := 36) (n := 64) C w (by decide) (by decide) (by decide) (by decide) dX12_init_269 (fun H locs w => ?_)
  refine lv_dup C.1 C.2.1 dX12_init_270 rfl ?_
  refine lv_bipush (v := 37) C.1 C.2.1 dX12_init_271 (by decide) ?_
  refine lv_ldc (v := (1986661051)) C.1 C.2.1 C.2.2.2.1 (C.2.2.2.2.1 _ kkX12_62) dX12_init_273 ?_
  refine n_ia (t := 37) (n := 64) C w (by decide) (by decide) (by decide) (by decide) dX12_init_275 (fun H locs w => ?_)
  refine lv_dup C.1 C.2.1 dX12_init_276 rfl ?_
  refine lv_bipush (v := 38) C.1 C.2.1 dX12_init_277 (by decide) ?_
  refine lv_ldc (v := (-2117940946)) C.1 C.2.1 C.2.2.2.1 (C.2.2.2.2.1 _ kkX12_63) dX12_init_279 ?_
  refine n_ia (t := 38) (n := 64) C w (by decide) (by decide) (by decide) (by decide) dX12_init_281 (fun H locs w => ?_)
  refine lv_dup C.1 C.2.1 dX12_init_282 rfl ?_
  refine lv_bipush (v := 39) C.1 C.2.1 dX12_init_283 (by decide) ?_
  refine lv_ldc (v := (-1838011259)) C.1 C.2.1 C.2.2.2.1 (C.2.2.2.2.1 _ kkX12_64) dX12_init_285 ?_
  refine n_ia (t := 39) (n := 64) C w (by decide) (by decide) (by decide) (by decide) dX12_init_287 (fun H locs w => ?_)
  refine lv_dup C.1 C.2.1 dX12_init_288 rfl ?_
  refine lv_bipush (v := 40) C.1 C.2.1 dX12_init_289 (by decide) ?_
  refine lv_ldc (v := (-1564481375)) C.1 C.2.1 C.2.2.2.1 (C.2.2.2.2.1 _ kkX12_65) dX12_init_291 ?_
  refine n_ia (t := 40) (n := 64) C w (by decide) (by decide) (by decide) (by decide) dX12_init_293 (fun H locs w => ?_)
  refine lv_dup C.1 C.2.1 dX12_init_294 rfl ?_
  refine lv_bipush (v := 41) C.1 C.2.1 dX12_init_295 (by decide) ?_
  refine lv_ldc (v := (-1474664885)) C.1 C.2.1 C.2.2.2.1 (C.2.2.2.2.1 _ kkX12_66) dX12_init_297 ?_
  refine n_ia (t := 41) (n := 64) C w (by decide) (by decide) (by decide) (by decide) dX12_init_299 (fun H locs w => ?_)
  refine lv_dup C.1 C.2.1 dX12_init_300 rfl ?_
  refine lv_bipush (v := 42) C.1 C.2.1 dX12_init_301 (by decide) ?_
  refine lv_ldc (v := (-1035236496)) C.1 C.2.1 C.2.2.2.1 (C.2.2.2.2.1 _ kkX12_67) dX12_init_303 ?_
  refine n_ia (t := 42) (n := 64) C w (by decide) (by decide) (by decide) (by decide) dX12_init_305 (fun H locs w => ?_)
  refine lv_dup C.1 C.2.1 dX12_init_306 rfl ?_
  refine lv_bipush (v := 43) C.1 C.2.1 dX12_init_307 (by decide) ?_
  refine lv_ldc (v := (-949202525)) C.1 C.2.1 C.2.2.2.1 (C.2.2.2.2.1 _ kkX12_68) dX12_init_309 ?_
  refine n_ia (t := 43) (n := 64) C w (by decide) (by decide) (by decide) (by decide) dX12_init_311 (fun H locs w => ?_)
  refine lv_dup C.1 C.2.1 dX12_init_312 rfl ?_
  refine lv_bipush (v := 44) C.1 C.2.1 dX12_init_313 (by decide) ?_
  refine lv_ldc (v := (-778901479)) C.1 C.2.1 C.2.2.2.1 (C.2.2.2.2.1 _ kkX12_69) dX12_init_315 ?_
  refine n_ia (t := 44) (n := 64) C w (by decide) (by decide) (by decide) (by decide) dX12_init_317 (fun H locs w => ?_)
  refine lv_dup C.1 C.2.1 dX12_init_318 rfl ?_
  refine lv_bipush (v := 45) C.1 C.2.1 dX12_init_319 (by decide) ?_
  refine lv_ldc (v := (-694614492)) C.1 C.2.1 C.2.2.2.1 (C.2.2.2.2.1 _ kkX12_70) dX12_init_321 ?_
  refine n_ia (t := 45) (n := 64) C w (by decide) (by decide) (by decide) (by decide) dX12_init_323 (fun H locs w => ?_)
  refine lv_dup C.1 C.2.1 dX12_init_324 rfl ?_
  refine lv_bipush (v := 46) C.1 C.2.1 dX12_init_325 (by decide) ?_
  refine lv_ldc (v := (-200395387)) C.1 C.2.1 C.2.2.2.1 (C.2.2.2.2.1 _ kkX12_71) dX12_init_327 ?_
  refine n_ia (t := 46) (n := 64) C w (by decide) (by decide) (by decide) (by decide) dX12_init_329 (fun H locs w => ?_)
  refine lv_dup C.1 C.2.1 dX12_init_330 rfl ?_
  refine lv_bipush (v := 47) C.1 C.2.1 dX12_init_331 (by decide) ?_
  refine lv_ldc (v := (275423344)) C.1 C.2.1 C.2.2.2.1 (C.2.2.2.2.1 _ kkX12_72) dX12_init_333 ?_
  refine n_ia (t := 47) (n := 64) C w (by decide) (by decide) (by decide) (by decide) dX12_init_335 (fun H locs w => ?_)
  refine lv_dup C.1 C.2.1 dX12_init_336 rfl ?_
  refine lv_bipush (v := 48) C.1 C.2.1 dX12_init_337 (by decide) ?_
  refine lv_ldc (v := (430227734)) C.1 C.2.1 C.2.2.2.1 (C.2.2.2.2.1 _ kkX12_73) dX12_init_339 ?_
  refine n_ia (t := 48) (n := 64) C w (by decide) (by decide) (by decide) (by decide) dX12_init_341 (fun H locs w => ?_)
  refine lv_dup C.1 C.2.1 dX12_init_342 rfl ?_
  refine lv_bipush (v := 49) C.1 C.2.1 dX12_init_343 (by decide) ?_
  refine lv_ldc (v := (506948616)) C.1 C.2.1 C.2.2.2.1 (C.2.2.2.2.1 _ kkX12_74) dX12_init_345 ?_
  refine n_ia (t := 49) (n := 64) C w (by decide) (by decide) (by decide) (by decide) dX12_init_347 (fun H locs w => ?_)
  refine lv_dup C.1 C.2.1 dX12_init_348 rfl ?_
  refine lv_bipush (v := 50) C.1 C.2.1 dX12_init_349 (by decide) ?_
  refine lv_ldc (v := (659060556)) C.1 C.2.1 C.2.2.2.1 (C.2.2.2.2.1 _ kkX12_75) dX12_init_351 ?_
  refine n_ia (t := 50) (n := 64) C w (by decide) (by decide) (by decide) (by decide) dX12_init_353 (fun H locs w => ?_)
  refine lv_dup C.1 C.2.1 dX12_init_354 rfl ?_
  refine lv_bipush (v := 51) C.1 C.2.1 dX12_init_355 (by decide) ?_
  refine lv_ldc (v := (883997877)) C.1 C.2.1 C.2.2.2.1 (C.2.2.2.2.1 _ kkX12_76) dX12_init_357 ?_
  refine n_ia (t := 51) (n := 64) C w (by decide) (by decide) (by decide) (by decide) dX12_init_359 (fun H locs w => ?_)
  refine lv_dup C.1 C.2.1 dX12_init_360 rfl ?_
  refine lv_bipush (v := 52) C.1 C.2.1 dX12_init_361 (by decide) ?_
  refine lv_ldc (v := (958139571)) C.1 C.2.1 C.2.2.2.1 (C.2.2.2.2.1 _ kkX12_77) dX12_init_363 ?_
  refine n_ia (t := 52) (n := 64) C w (by decide) (by decide) (by decide) (by decide) dX12_init_365 (fun H locs w => ?_)
  refine lv_dup C.1 C.2.1 dX12_init_366 rfl ?_
  refine lv_bipush (v := 53) C.1 C.2.1 dX12_init_367 (by decide) ?_
  refine lv_ldc (v := (1322822218)) C.1 C.2.1 C.2.2.2.1 (C.2.2.2.2.1 _ kkX12_78) dX12_init_369 ?_
  refine n_ia (t := 53) (n := 64) C w (by decide) (by decide) (by decide) (by decide) dX12_init_371 (fun H locs w => ?_)
  refine lv_dup C.1 C.2.1 dX12_init_372 rfl ?_
  refine lv_bipush (v := 54) C.1 C.2.1 dX12_init_373 (by decide) ?_
  refine lv_ldc (v := (1537002063)) C.1 C.2.1 C.2.2.2.1 (C.2.2.2.2.1 _ kkX12_79) dX12_init_375 ?_
  refine n_ia (t := 54) (n := 64) C w (by decide) (by decide) (by decide) (by decide) dX12_init_377 (fun H locs w => ?_)
  refine lv_dup C.1 C.2.1 dX12_init_378 rfl ?_
  refine lv_bipush (v := 55) C.1 C.2.1 dX12_init_379 (by decide) ?_
  refine lv_ldc (v := (1747873779)) C.1 C.2.1 C.2.2.2.1 (C.2.2.2.2.1 _ kkX12_80) dX12_init_381 ?_
  refine n_ia (t := 55) (n := 64) C w (by decide) (by decide) (by decide) (by decide) dX12_init_383 (fun H locs w => ?_)
  refine lv_dup C.1 C.2.1 dX12_init_384 rfl ?_
  refine lv_bipush (v := 56) C.1 C.2.1 dX12_init_385 (by decide) ?_
  refine lv_ldc (v := (1955562222)) C.1 C.2.1 C.2.2.2.1 (C.2.2.2.2.1 _ kkX12_81) dX12_init_387 ?_
  refine n_ia (t := 56) (n := 64) C w (by decide) (by decide) (by decide) (by decide) dX12_init_389 (fun H locs w => ?_)
  refine lv_dup C.1 C.2.1 dX12_init_390 rfl ?_
  refine lv_bipush (v := 57) C.1 C.2.1 dX12_init_391 (by decide) ?_
  refine lv_ldc (v := (2024104815)) C.1 C.2.1 C.2.2.2.1 (C.2.2.2.2.1 _ kkX12_82) dX12_init_393 ?_
  refine n_ia (t := 57) (n := 64) C w (by decide) (by decide) (by decide) (by decide) dX12_init_395 (fun H locs w => ?_)
  refine lv_dup C.1 C.2.1 dX12_init_396 rfl ?_
  refine lv_bipush (v := 58) C.1 C.2.1 dX12_init_397 (by decide) ?_
  refine lv_ldc (v := (-2067236844)) C.1 C.2.1 C.2.2.2.1 (C.2.2.2.2.1 _ kkX12_83) dX12_init_399 ?_
  refine n_ia (t := 58) (n := 64) C w (by decide) (by decide) (by decide) (by decide) dX12_init_401 (fun H locs w => ?_)
  refine lv_dup C.1 C.2.1 dX12_init_402 rfl ?_
  refine lv_bipush (v := 59) C.1 C.2.1 dX12_init_403 (by decide) ?_
  refine lv_ldc (v := (-1933114872)) C.1 C.2.1 C.2.2.2.1 (C.2.2.2.2.1 _ kkX12_84) dX12_init_405 ?_
  refine n_ia (t := 59) (n := 64) C w (by decide) (by decide) (by decide) (by decide) dX12_init_407 (fun H locs w => ?_)
  refine lv_dup C.1 C.2.1 dX12_init_408 rfl ?_
  refine lv_bipush (v := 60) C.1 C.2.1 dX12_init_409 (by decide) ?_
  refine lv_ldc (v := (-1866530822)) C.1 C.2.1 C.2.2.2.1 (C.2.2.2.2.1 _ kkX12_85) dX12_init_411 ?_
  refine n_ia (t := 60) (n := 64) C w (by decide) (by decide) (by decide) (by decide) dX12_init_413 (fun H locs w => ?_)
  refine lv_dup C.1 C.2.1 dX12_init_414 rfl ?_
  refine lv_bipush (v := 61) C.1 C.2.1 dX12_init_415 (by decide) ?_
  refine lv_ldc (v := (-1538233109)) C.1 C.2.1 C.2.2.2.1 (C.2.2.2.2.1 _ kkX12_86) dX12_init_417 ?_
  refine n_ia (t := 61) (n := 64) C w (by decide) (by decide) (by decide) (by decide) dX12_init_419 (fun H locs w => ?_)
  refine lv_dup C.1 C.2.1 dX12_init_420 rfl ?_
  refine lv_bipush (v := 62) C.1 C.2.1 dX12_init_421 (by decide) ?_
  refine lv_ldc (v := (-1090935817)) C.1 C.2.1 C.2.2.2.1 (C.2.2.2.2.1 _ kkX12_87) dX12_init_423 ?_
  refine n_ia (t := 62) (n := 64) C w (by decide) (by decide) (by decide) (by decide) dX12_init_425 (fun H locs w => ?_)
  refine lv_dup C.1 C.2.1 dX12_init_426 rfl ?_
  refine lv_bipush (v := 63) C.1 C.2.1 dX12_init_427 (by decide) ?_
  refine lv_ldc (v := (-965641998)) C.1 C.2.1 C.2.2.2.1 (C.2.2.2.2.1 _ kkX12_88) dX12_init_429 ?_
  refine n_ia (t := 63) (n := 64) C w (by decide) (by decide) (by decide) (by decide) dX12_init_431 (fun H locs w => ?_)
  have w := n_close w rfl (by decide) (fun _ _ => rfl)
  have w : n_W D b0 r 0 (117) 11 [.ref (r (118)), .ref (r (119)), .ref (r (120)), .ref (r (121)), .int 0, .int 0, .ref (r (122)), .null, .null, .null, .null, .null, .null, .null, .int 0, .null, .null, .null, .null, .null, .null, .null, .null, .null, .null, .null, .null, .null, .null, .null, .null, .null, .null, .null, .null, .null, .null, .null, .null, .null, .null, .null, .null, .null, .null, .null, .null, .null, .null, .null, .null, .null, .null, .null, .null, .null, .null, .null] (124) s H locs := w
  refine n_putF C w (v := (.ref (r (123)))) nlX12_89 (by decide) (by decide) (Nat.le_of_ble_eq_true rfl) rfl rfl dX12_init_432 (fun H locs w => ?_)
  have w : n_W D b0 r 0 (117) 11 [.ref (r (118)), .ref (r (119)), .ref (r (120)), .ref (r (121)), .int 0, .int 0, .ref (r (122)), .ref (r (123)), .null, .null, .null, .null, .null, .null, .int 0, .null, .null, .null, .null, .null, .null, .null, .null, .null, .null, .null, .null, .null, .null, .null, .null, .null, .null, .null, .null, .null, .null, .null, .null, .null, .null, .null, .null, .null, .null, .null, .null, .null, .null, .null, .null, .null, .null, .null, .null, .null, .null, .null] (124) s H locs := w
  refine lv_aload_n C.1 C.2.1 dX12_init_435 rfl (lv_at hl 0 rfl) ?_
  refine lv_bipush (v := 8) C.1 C.2.1 dX12_init_436 (by decide) ?_
  refine n_newo (n := 8) C w (mm_tab 175) (by decide) (by decide) ⟨by simp [n_rm], by simp [n_rm]⟩ dX12_init_438 (fun H w => ?_)
  refine W.widen (k := 7) (n := 4428) (by omega) (by omega) ?_
  refine lv_dup C.1 C.2.1 dX12_init_440 rfl ?_
  refine lv_iconst (v := 0) C.1 C.2.1 dX12_init_441 (by decide) ?_
  refine lv_ldc (v := (1779033703)) C.1 C.2.1 C.2.2.2.1 (C.2.2.2.2.1 _ kkX12_93) dX12_init_442 ?_
  refine n_ia (t := 0) (n := 8) C w (by decide) (by decide) (by decide) (by decide) dX12_init_444 (fun H locs w => ?_)
  refine lv_dup C.1 C.2.1 dX12_init_445 rfl ?_
  refine lv_iconst (v := 1) C.1 C.2.1 dX12_init_446 (by decide) ?_
  refine lv_ldc (v := (-1150833019)) C.1 C.2.1 C.2.2.2.1 (C.2.2.2.2.1 _ kkX12_94) dX12_init_447 ?_
  refine n_ia (t := 1) (n := 8) C w (by decide) (by decide) (by decide) (by decide) dX12_init_449 (fun H locs w => ?_)
  refine lv_dup C.1 C.2.1 dX12_init_450 rfl ?_
  refine lv_iconst (v := 2) C.1 C.2.1 dX12_init_451 (by decide) ?_
  refine lv_ldc (v := (1013904242)) C.1 C.2.1 C.2.2.2.1 (C.2.2.2.2.1 _ kkX12_95) dX12_init_452 ?_
  refine n_ia (t := 2) (n := 8) C w (by decide) (by decide) (by decide) (by decide) dX12_init_454 (fun H locs w => ?_)
  refine lv_dup C.1 C.2.1 dX12_init_455 rfl ?_
  refine lv_iconst (v := 3) C.1 C.2.1 dX12_init_456 (by decide) ?_
  refine lv_ldc (v := (-1521486534)) C.1 C.2.1 C.2.2.2.1 (C.2.2.2.2.1 _ kkX12_96) dX12_init_457 ?_
  refine n_ia (t := 3) (n := 8) C w (by decide) (by decide) (by decide) (by decide) dX12_init_459 (fun H locs w => ?_)
  refine lv_dup C.1 C.2.1 dX12_init_460 rfl ?_
  refine lv_iconst (v := 4) C.1 C.2.1 dX12_init_461 (by decide) ?_
  refine lv_ldc (v := (1359893119)) C.1 C.2.1 C.2.2.2.1 (C.2.2.2.2.1 _ kkX12_97) dX12_init_462 ?_
  refine n_ia (t := 4) (n := 8) C w (by decide) (by decide) (by decide) (by decide) dX12_init_464 (fun H locs w => ?_)
  refine lv_dup C.1 C.2.1 dX12_init_465 rfl ?_
  refine lv_iconst (v := 5) C.1 C.2.1 dX12_init_466 (by decide) ?_
  refine lv_ldc (v := (-1694144372)) C.1 C.2.1 C.2.2.2.1 (C.2.2.2.2.1 _ kkX12_98) dX12_init_467 ?_
  refine n_ia (t := 5) (n := 8) C w (by decide) (by decide) (by decide) (by decide) dX12_init_469 (fun H locs w => ?_)
  refine lv_dup C.1 C.2.1 dX12_init_470 rfl ?_
  refine lv_bipush (v := 6) C.1 C.2.1 dX12_init_471 (by decide) ?_
  refine lv_ldc (v := (528734635)) C.1 C.2.1 C.2.2.2.1 (C.2.2.2.2.1 _ kkX12_99) dX12_init_473 ?_
  refine n_ia (t := 6) (n := 8) C w (by decide) (by decide) (by decide) (by decide) dX12_init_475 (fun H locs w => ?_)
  refine lv_dup C.1 C.2.1 dX12_init_476 rfl ?_
  refine lv_bipush (v := 7) C.1 C.2.1 dX12_init_477 (by decide) ?_
  refine lv_ldc (v := (1541459225)) C.1 C.2.1 C.2.2.2.1 (C.2.2.2.2.1 _ kkX12_100) dX12_init_479 ?_
  refine n_ia (t := 7) (n := 8) C w (by decide) (by decide) (by decide) (by decide) dX12_init_481 (fun H locs w => ?_)
  have w := n_close w rfl (by decide) (fun _ _ => rfl)
  have w : n_W D b0 r 0 (117) 11 [.ref (r (118)), .ref (r (119)), .ref (r (120)), .ref (r (121)), .int 0, .int 0, .ref (r (122)), .ref (r (123)), .null, .null, .null, .null, .null, .null, .int 0, .null, .null, .null, .null, .null, .null, .null, .null, .null, .null, .null, .null, .null, .null, .null, .null, .null, .null, .null, .null, .null, .null, .null, .null, .null, .null, .null, .null, .null, .null, .null, .null, .null, .null, .null, .null, .null, .null, .null, .null, .null, .null, .null] (125) s H locs := w
  refine n_putF C w (v := (.ref (r (124)))) nlX12_101 (by decide) (by decide) (Nat.le_of_ble_eq_true rfl) rfl rfl dX12_init_482 (fun H locs w => ?_)
  have w : n_W D b0 r 0 (117) 11 [.ref (r (118)), .ref (r (119)), .ref (r (120)), .ref (r (121)), .int 0, .int 0, .ref (r (122)), .ref (r (123)), .ref (r (124)), .null, .null, .null, .null, .null, .int 0, .null, .null, .null, .null, .null, .null, .null, .null, .null, .null, .null, .null, .null, .null, .null, .null, .null, .null, .null, .null, .null, .null, .null, .null, .null, .null, .null, .null, .null, .null, .null, .null, .null, .null, .null, .null, .null, .null, .null, .null, .null, .null, .null] (125) s H locs := w
  refine lv_aload_n C.1 C.2.1 dX12_init_485 rfl (lv_at hl 0 rfl) ?_
  refine lv_bipush (v := 64) C.1 C.2.1 dX12_init_486 (by decide) ?_
  refine n_newa (atype := .int) (n := 64) C w rfl (by unfold n_z; decide) (by simp) n_ac_int (by decide) ⟨by simp [n_rm], by simp [n_rm]⟩ dX12_init_488 (fun H w => ?_)
  have w : n_W D b0 r 0 (117) 11 [.ref (r (118)), .ref (r (119)), .ref (r (120)), .ref (r (121)), .int 0, .int 0, .ref (r (122)), .ref (r (123)), .ref (r (124)), .null, .null, .null, .null, .null, .int 0, .null, .null, .null, .null, .null, .null, .null, .null, .null, .null, .null, .null, .null, .null, .null, .null, .null, .null, .null, .null, .null, .null, .null, .null, .null, .null, .null, .null, .null, .null, .null, .null, .null, .null, .null, .null, .null, .null, .null, .null, .null, .null, .null] (126) s H locs := w
  refine W.widen (k := 8) (n := 4492) (by omega) (by omega) ?_
  refine n_putF C w (v := (.ref (r (125)))) nlX12_104 (by decide) (by decide) (Nat.le_of_ble_eq_true rfl) rfl rfl dX12_init_490 (fun H locs w => ?_)
  have w : n_W D b0 r 0 (117) 11 [.ref (r (118)), .ref (r (119)), .ref (r (120)), .ref (r (121)), .int 0, .int 0, .ref (r (122)), .ref (r (123)), .ref (r (124)), .ref (r (125)), .null, .null, .null, .null, .int 0, .null, .null, .null, .null, .null, .null, .null, .null, .null, .null, .null, .null, .null, .null, .null, .null, .null, .null, .null, .null, .null, .null, .null, .null, .null, .null, .null, .null, .null, .null, .null, .null, .null, .null, .null, .null, .null, .null, .null, .null, .null, .null, .null] (126) s H locs := w
  refine lv_aload_n C.1 C.2.1 dX12_init_493 rfl (lv_at hl 0 rfl) ?_
  refine lv_bipush (v := 8) C.1 C.2.1 dX12_init_494 (by decide) ?_
  refine n_newa (atype := .int) (n := 8) C w rfl (by unfold n_z; decide) (by simp) n_ac_int (by decide) ⟨by simp [n_rm], by simp [n_rm]⟩ dX12_init_496 (fun H w => ?_)
  have w : n_W D b0 r 0 (117) 11 [.ref (r (118)), .ref (r (119)), .ref (r (120)), .ref (r (121)), .int 0, .int 0, .ref (r (122)), .ref (r (123)), .ref (r (124)), .ref (r (125)), .null, .null, .null, .null, .int 0, .null, .null, .null, .null, .null, .null, .null, .null, .null, .null, .null, .null, .null, .null, .null, .null, .null, .null, .null, .null, .null, .null, .null, .null, .null, .null, .null, .null, .null, .null, .null, .null, .null, .null, .null, .null, .null, .null, .null, .null, .null, .null, .null] (127) s H locs := w
  refine W.widen (k := 9) (n := 4500) (by omega) (by omega) ?_
  refine n_putF C w (v := (.ref (r (126)))) nlX12_107 (by decide) (by decide) (Nat.le_of_ble_eq_true rfl) rfl rfl dX12_init_498 (fun H locs w => ?_)
  have w : n_W D b0 r 0 (117) 11 [.ref (r (118)), .ref (r (119)), .ref (r (120)), .ref (r (121)), .int 0, .int 0, .ref (r (122)), .ref (r (123)), .ref (r (124)), .ref (r (125)), .ref (r (126)), .null, .null, .null, .int 0, .null, .null, .null, .null, .null, .null, .null, .null, .null, .null, .null, .null, .null, .null, .null, .null, .null, .null, .null, .null, .null, .null, .null, .null, .null, .null, .null, .null, .null, .null, .null, .null, .null, .null, .null, .null, .null, .null, .null, .null, .null, .null, .null] (127) s H locs := w
  refine lv_aload_n C.1 C.2.1 dX12_init_501 rfl (lv_at hl 0 rfl) ?_
  refine lv_bipush (v := 8) C.1 C.2.1 dX12_init_502 (by decide) ?_
  refine n_newa (atype := .int) (n := 8) C w rfl (by unfold n_z; decide) (by simp) n_ac_int (by decide) ⟨by simp [n_rm], by simp [n_rm]⟩ dX12_init_504 (fun H w => ?_)
  have w : n_W D b0 r 0 (117) 11 [.ref (r (118)), .ref (r (119)), .ref (r (120)), .ref (r (121)), .int 0, .int 0, .ref (r (122)), .ref (r (123)), .ref (r (124)), .ref (r (125)), .ref (r (126)), .null, .null, .null, .int 0, .null, .null, .null, .null, .null, .null, .null, .null, .null, .null, .null, .null, .null, .null, .null, .null, .null, .null, .null, .null, .null, .null, .null, .null, .null, .null, .null, .null, .null, .null, .null, .null, .null, .null, .null, .null, .null, .null, .null, .null, .null, .null, .null] (128) s H locs := w
  refine W.widen (k := 10) (n := 4508) (by omega) (by omega) ?_
  refine n_putF C w (v := (.ref (r (127)))) nlX12_110 (by decide) (by decide) (Nat.le_of_ble_eq_true rfl) rfl rfl dX12_init_506 (fun H locs w => ?_)
  have w : n_W D b0 r 0 (117) 11 [.ref (r (118)), .ref (r (119)), .ref (r (120)), .ref (r (121)), .int 0, .int 0, .ref (r (122)), .ref (r (123)), .ref (r (124)), .ref (r (125)), .ref (r (126)), .ref (r (127)), .null, .null, .int 0, .null, .null, .null, .null, .null, .null, .null, .null, .null, .null, .null, .null, .null, .null, .null, .null, .null, .null, .null, .null, .null, .null, .null, .null, .null, .null, .null, .null, .null, .null, .null, .null, .null, .null, .null, .null, .null, .null, .null, .null, .null, .null, .null] (128) s H locs := w
  refine lv_aload_n C.1 C.2.1 dX12_init_509 rfl (lv_at hl 0 rfl) ?_
  refine lv_sipush (v := 1300) C.1 C.2.1 dX12_init_510 (by decide) ?_
  refine n_newa (atype := .byte) (n := 1300) C w rfl (by unfold n_z; decide) (by simp) n_ac_byte (by decide) ⟨by simp [n_rm], by simp [n_rm]⟩ dX12_init_513 (fun H w => ?_)
  have w : n_W D b0 r 0 (117) 11 [.ref (r (118)), .ref (r (119)), .ref (r (120)), .ref (r (121)), .int 0, .int 0, .ref (r (122)), .ref (r (123)), .ref (r (124)), .ref (r (125)), .ref (r (126)), .ref (r (127)), .null, .null, .int 0, .null, .null, .null, .null, .null, .null, .null, .null, .null, .null, .null, .null, .null, .null, .null, .null, .null, .null, .null, .null, .null, .null, .null, .null, .null, .null, .null, .null, .null, .null, .null, .null, .null, .null, .null, .null, .null, .null, .null, .null, .null, .null, .null] (129) s H locs := w
  refine W.widen (k := 11) (n := 5808) (by omega) (by omega) ?_
  refine n_putF C w (v := (.ref (r (128)))) nlX12_113 (by decide) (by decide) (Nat.le_of_ble_eq_true rfl) rfl rfl dX12_init_515 (fun H locs w => ?_)
  have w : n_W D b0 r 0 (117) 11 [.ref (r (118)), .ref (r (119)), .ref (r (120)), .ref (r (121)), .int 0, .int 0, .ref (r (122)), .ref (r (123)), .ref (r (124)), .ref (r (125)), .ref (r (126)), .ref (r (127)), .ref (r (128)), .null, .int 0, .null, .null, .null, .null, .null, .null, .null, .null, .null, .null, .null, .null, .null, .null, .null, .null, .null, .null, .null, .null, .null, .null, .null, .null, .null, .null, .null, .null, .null, .null, .null, .null, .null, .null, .null, .null, .null, .null, .null, .null, .null, .null, .null] (129) s H locs := w
  refine lv_aload_n C.1 C.2.1 dX12_init_518 rfl (lv_at hl 0 rfl) ?_
  refine lv_bipush (v := 32) C.1 C.2.1 dX12_init_519 (by decide) ?_
  refine n_newa (atype := .byte) (n := 32) C w rfl (by unfold n_z; decide) (by simp) n_ac_byte (by decide) ⟨by simp [n_rm], by simp [n_rm]⟩ dX12_init_521 (fun H w => ?_)
  have w : n_W D b0 r 0 (117) 11 [.ref (r (118)), .ref (r (119)), .ref (r (120)), .ref (r (121)), .int 0, .int 0, .ref (r (122)), .ref (r (123)), .ref (r (124)), .ref (r (125)), .ref (r (126)), .ref (r (127)), .ref (r (128)), .null, .int 0, .null, .null, .null, .null, .null, .null, .null, .null, .null, .null, .null, .null, .null, .null, .null, .null, .null, .null, .null, .null, .null, .null, .null, .null, .null, .null, .null, .null, .null, .null, .null, .null, .null, .null, .null, .null, .null, .null, .null, .null, .null, .null, .null] (130) s H locs := w
  refine W.widen (k := 12) (n := 5840) (by omega) (by omega) ?_
  refine n_putF C w (v := (.ref (r (129)))) nlX12_116 (by decide) (by decide) (Nat.le_of_ble_eq_true rfl) rfl rfl dX12_init_523 (fun H locs w => ?_)
  have w : n_W D b0 r 0 (117) 11 [.ref (r (118)), .ref (r (119)), .ref (r (120)), .ref (r (121)), .int 0, .int 0, .ref (r (122)), .ref (r (123)), .ref (r (124)), .ref (r (125)), .ref (r (126)), .ref (r (127)), .ref (r (128)), .ref (r (129)), .int 0, .null, .null, .null, .null, .null, .null, .null, .null, .null, .null, .null, .null, .null, .null, .null, .null, .null, .null, .null, .null, .null, .null, .null, .null, .null, .null, .null, .null, .null, .null, .null, .null, .null, .null, .null, .null, .null, .null, .null, .null, .null, .null, .null] (130) s H locs := w
  refine lv_aload_n C.1 C.2.1 dX12_init_526 rfl (lv_at hl 0 rfl) ?_
  refine lv_bipush (v := 32) C.1 C.2.1 dX12_init_527 (by decide) ?_
  refine n_newa (atype := .byte) (n := 32) C w rfl (by unfold n_z; decide) (by simp) n_ac_byte (by decide) ⟨by simp [n_rm], by simp [n_rm]⟩ dX12_init_529 (fun H w => ?_)
  have w : n_W D b0 r 0 (117) 11 [.ref (r (118)), .ref (r (119)), .ref (r (120)), .ref (r (121)), .int 0, .int 0, .ref (r (122)), .ref (r (123)), .ref (r (124)), .ref (r (125)), .ref (r (126)), .ref (r (127)), .ref (r (128)), .ref (r (129)), .int 0, .null, .null, .null, .null, .null, .null, .null, .null, .null, .null, .null, .null, .null, .null, .null, .null, .null, .null, .null, .null, .null, .null, .null, .null, .null, .null, .null, .null, .null, .null, .null, .null, .null, .null, .null, .null, .null, .null, .null, .null, .null, .null, .null] (131) s H locs := w
  refine W.widen (k := 13) (n := 5872) (by omega) (by omega) ?_
  refine n_putF C w (v := (.ref (r (130)))) nlX12_119 (by decide) (by decide) (Nat.le_of_ble_eq_true rfl) rfl rfl dX12_init_531 (fun H locs w => ?_)
  have w : n_W D b0 r 0 (117) 11 [.ref (r (118)), .ref (r (119)), .ref (r (120)), .ref (r (121)), .int 0, .int 0, .ref (r (122)), .ref (r (123)), .ref (r (124)), .ref (r (125)), .ref (r (126)), .ref (r (127)), .ref (r (128)), .ref (r (129)), .int 0, .ref (r (130)), .null, .null, .null, .null, .null, .null, .null, .null, .null, .null, .null, .null, .null, .null, .null, .null, .null, .null, .null, .null, .null, .null, .null, .null, .null, .null, .null, .null, .null, .null, .null, .null, .null, .null, .null, .null, .null, .null, .null, .null, .null, .null] (131) s H locs := w
  refine lv_aload_n C.1 C.2.1 dX12_init_534 rfl (lv_at hl 0 rfl) ?_
  refine lv_bipush (v := 32) C.1 C.2.1 dX12_init_535 (by decide) ?_
  refine n_newa (atype := .byte) (n := 32) C w rfl (by unfold n_z; decide) (by simp) n_ac_byte (by decide) ⟨by simp [n_rm], by simp [n_rm]⟩ dX12_init_537 (fun H w => ?_)
  have w : n_W D b0 r 0 (117) 11 [.ref (r (118)), .ref (r (119)), .ref (r (120)), .ref (r (121)), .int 0, .int 0, .ref (r (122)), .ref (r (123)), .ref (r (124)), .ref (r (125)), .ref (r (126)), .ref (r (127)), .ref (r (128)), .ref (r (129)), .int 0, .ref (r (130)), .null, .null, .null, .null, .null, .null, .null, .null, .null, .null, .null, .null, .null, .null, .null, .null, .null, .null, .null, .null, .null, .null, .null, .null, .null, .null, .null, .null, .null, .null, .null, .null, .null, .null, .null, .null, .null, .null, .null, .null, .null, .null] (132) s H locs := w
  refine W.widen (k := 14) (n := 5904) (by omega) (by omega) ?_
  refine n_putF C w (v := (.ref (r (131)))) nlX12_122 (by decide) (by decide) (Nat.le_of_ble_eq_true rfl) rfl rfl dX12_init_539 (fun H locs w => ?_)
  have w : n_W D b0 r 0 (117) 11 [.ref (r (118)), .ref (r (119)), .ref (r (120)), .ref (r (121)), .int 0, .int 0, .ref (r (122)), .ref (r (123)), .ref (r (124)), .ref (r (125)), .ref (r (126)), .ref (r (127)), .ref (r (128)), .ref (r (129)), .int 0, .ref (r (130)), .ref (r (131)), .null, .null, .null, .null, .null, .null, .null, .null, .null, .null, .null, .null, .null, .null, .null, .null, .null, .null, .null, .null, .null, .null, .null, .null, .null, .null, .null, .null, .null, .null, .null, .null, .null, .null, .null, .null, .null, .null, .null, .null, .null] (132) s H locs := w
  refine lv_aload_n C.1 C.2.1 dX12_init_542 rfl (lv_at hl 0 rfl) ?_
  refine lv_bipush (v := 16) C.1 C.2.1 dX12_init_543 (by decide) ?_
  refine n_newa (atype := .long) (n := 16) C w rfl (by unfold n_z; decide) (by simp) n_ac_long (by decide) ⟨by simp [n_rm], by simp [n_rm]⟩ dX12_init_545 (fun H w => ?_)
  have w : n_W D b0 r 0 (117) 11 [.ref (r (118)), .ref (r (119)), .ref (r (120)), .ref (r (121)), .int 0, .int 0, .ref (r (122)), .ref (r (123)), .ref (r (124)), .ref (r (125)), .ref (r (126)), .ref (r (127)), .ref (r (128)), .ref (r (129)), .int 0, .ref (r (130)), .ref (r (131)), .null, .null, .null, .null, .null, .null, .null, .null, .null, .null, .null, .null, .null, .null, .null, .null, .null, .null, .null, .null, .null, .null, .null, .null, .null, .null, .null, .null, .null, .null, .null, .null, .null, .null, .null, .null, .null, .null, .null, .null, .null] (133) s H locs := w
  refine W.widen (k := 15) (n := 5920) (by omega) (by omega) ?_
  refine n_putF C w (v := (.ref (r (132)))) nlX12_125 (by decide) (by decide) (Nat.le_of_ble_eq_true rfl) rfl rfl dX12_init_547 (fun H locs w => ?_)
  have w : n_W D b0 r 0 (117) 11 [.ref (r (118)), .ref (r (119)), .ref (r (120)), .ref (r (121)), .int 0, .int 0, .ref (r (122)), .ref (r (123)), .ref (r (124)), .ref (r (125)), .ref (r (126)), .ref (r (127)), .ref (r (128)), .ref (r (129)), .int 0, .ref (r (130)), .ref (r (131)), .ref (r (132)), .null, .null, .null, .null, .null, .null, .null, .null, .null, .null, .null, .null, .null, .null, .null, .null, .null, .null, .null, .null, .null, .null, .null, .null, .null, .null, .null, .null, .null, .null, .null, .null, .null, .null, .null, .null, .null, .null, .null, .null] (133) s H locs := w
  refine lv_aload_n C.1 C.2.1 dX12_init_550 rfl (lv_at hl 0 rfl) ?_
  refine lv_bipush (v := 16) C.1 C.2.1 dX12_init_551 (by decide) ?_
  refine n_newa (atype := .long) (n := 16) C w rfl (by unfold n_z; decide) (by simp) n_ac_long (by decide) ⟨by simp [n_rm], by simp [n_rm]⟩ dX12_init_553 (fun H w => ?_)
  have w : n_W D b0 r 0 (117) 11 [.ref (r (118)), .ref (r (119)), .ref (r (120)), .ref (r (121)), .int 0, .int 0, .ref (r (122)), .ref (r (123)), .ref (r (124)), .ref (r (125)), .ref (r (126)), .ref (r (127)), .ref (r (128)), .ref (r (129)), .int 0, .ref (r (130)), .ref (r (131)), .ref (r (132)), .null, .null, .null, .null, .null, .null, .null, .null, .null, .null, .null, .null, .null, .null, .null, .null, .null, .null, .null, .null, .null, .null, .null, .null, .null, .null, .null, .null, .null, .null, .null, .null, .null, .null, .null, .null, .null, .null, .null, .null] (134) s H locs := w
  refine W.widen (k := 16) (n := 5936) (by omega) (by omega) ?_
  refine n_putF C w (v := (.ref (r (133)))) nlX12_129 (by decide) (by decide) (Nat.le_of_ble_eq_true rfl) rfl rfl dX12_init_555 (fun H locs w => ?_)
  have w : n_W D b0 r 0 (117) 11 [.ref (r (118)), .ref (r (119)), .ref (r (120)), .ref (r (121)), .int 0, .int 0, .ref (r (122)), .ref (r (123)), .ref (r (124)), .ref (r (125)), .ref (r (126)), .ref (r (127)), .ref (r (128)), .ref (r (129)), .int 0, .ref (r (130)), .ref (r (131)), .ref (r (132)), .ref (r (133)), .null, .null, .null, .null, .null, .null, .null, .null, .null, .null, .null, .null, .null, .null, .null, .null, .null, .null, .null, .null, .null, .null, .null, .null, .null, .null, .null, .null, .null, .null, .null, .null, .null, .null, .null, .null, .null, .null, .null] (134) s H locs := w
  refine lv_aload_n C.1 C.2.1 dX12_init_558 rfl (lv_at hl 0 rfl) ?_
  refine lv_bipush (v := 16) C.1 C.2.1 dX12_init_559 (by decide) ?_
  refine n_newa (atype := .long) (n := 16) C w rfl (by unfold n_z; decide) (by simp) n_ac_long (by decide) ⟨by simp [n_rm], by simp [n_rm]⟩ dX12_init_561 (fun H w => ?_)
  have w : n_W D b0 r 0 (117) 11 [.ref (r (118)), .ref (r (119)), .ref (r (120)), .ref (r (121)), .int 0, .int 0, .ref (r (122)), .ref (r (123)), .ref (r (124)), .ref (r (125)), .ref (r (126)), .ref (r (127)), .ref (r (128)), .ref (r (129)), .int 0, .ref (r (130)), .ref (r (131)), .ref (r (132)), .ref (r (133)), .null, .null, .null, .null, .null, .null, .null, .null, .null, .null, .null, .null, .null, .null, .null, .null, .null, .null, .null, .null, .null, .null, .null, .null, .null, .null, .null, .null, .null, .null, .null, .null, .null, .null, .null, .null, .null, .null, .null] (135) s H locs := w
  refine W.widen (k := 17) (n := 5952) (by omega) (by omega) ?_
  refine n_putF C w (v := (.ref (r (134)))) nlX12_132 (by decide) (by decide) (Nat.le_of_ble_eq_true rfl) rfl rfl dX12_init_563 (fun H locs w => ?_)
  have w : n_W D b0 r 0 (117) 11 [.ref (r (118)), .ref (r (119)), .ref (r (120)), .ref (r (121)), .int 0, .int 0, .ref (r (122)), .ref (r (123)), .ref (r (124)), .ref (r (125)), .ref (r (126)), .ref (r (127)), .ref (r (128)), .ref (r (129)), .int 0, .ref (r (130)), .ref (r (131)), .ref (r (132)), .ref (r (133)), .ref (r (134)), .null, .null, .null, .null, .null, .null, .null, .null, .null, .null, .null, .null, .null, .null, .null, .null, .null, .null, .null, .null, .null, .null, .null, .null, .null, .null, .null, .null, .null, .null, .null, .null, .null, .null, .null, .null, .null, .null] (135) s H locs := w
  refine lv_aload_n C.1 C.2.1 dX12_init_566 rfl (lv_at hl 0 rfl) ?_
  refine lv_bipush (v := 16) C.1 C.2.1 dX12_init_567 (by decide) ?_
  refine n_newa (atype := .long) (n := 16) C w rfl (by unfold n_z; decide) (by simp) n_ac_long (by decide) ⟨by simp [n_rm], by simp [n_rm]⟩ dX12_init_569 (fun H w => ?_)
  have w : n_W D b0 r 0 (117) 11 [.ref (r (118)), .ref (r (119)), .ref (r (120)), .ref (r (121)), .int 0, .int 0, .ref (r (122)), .ref (r (123)), .ref (r (124)), .ref (r (125)), .ref (r (126)), .ref (r (127)), .ref (r (128)), .ref (r (129)), .int 0, .ref (r (130)), .ref (r (131)), .ref (r (132)), .ref (r (133)), .ref (r (134)), .null, .null, .null, .null, .null, .null, .null, .null, .null, .null, .null, .null, .null, .null, .null, .null, .null, .null, .null, .null, .null, .null, .null, .null, .null, .null, .null, .null, .null, .null, .null, .null, .null, .null, .null, .null, .null, .null] (136) s H locs := w
  refine W.widen (k := 18) (n := 5968) (by omega) (by omega) ?_
  refine n_putF C w (v := (.ref (r (135)))) nlX12_135 (by decide) (by decide) (Nat.le_of_ble_eq_true rfl) rfl rfl dX12_init_571 (fun H locs w => ?_)
  have w : n_W D b0 r 0 (117) 11 [.ref (r (118)), .ref (r (119)), .ref (r (120)), .ref (r (121)), .int 0, .int 0, .ref (r (122)), .ref (r (123)), .ref (r (124)), .ref (r (125)), .ref (r (126)), .ref (r (127)), .ref (r (128)), .ref (r (129)), .int 0, .ref (r (130)), .ref (r (131)), .ref (r (132)), .ref (r (133)), .ref (r (134)), .ref (r (135)), .null, .null, .null, .null, .null, .null, .null, .null, .null, .null, .null, .null, .null, .null, .null, .null, .null, .null, .null, .null, .null, .null, .null, .null, .null, .null, .null, .null, .null, .null, .null, .null, .null, .null, .null, .null, .null] (136) s H locs := w
  refine lv_aload_n C.1 C.2.1 dX12_init_574 rfl (lv_at hl 0 rfl) ?_
  refine lv_bipush (v := 16) C.1 C.2.1 dX12_init_575 (by decide) ?_
  refine n_newa (atype := .long) (n := 16) C w rfl (by unfold n_z; decide) (by simp) n_ac_long (by decide) ⟨by simp [n_rm], by simp [n_rm]⟩ dX12_init_577 (fun H w => ?_)
  have w : n_W D b0 r 0 (117) 11 [.ref (r (118)), .ref (r (119)), .ref (r (120)), .ref (r (121)), .int 0, .int 0, .ref (r (122)), .ref (r (123)), .ref (r (124)), .ref (r (125)), .ref (r (126)), .ref (r (127)), .ref (r (128)), .ref (r (129)), .int 0, .ref (r (130)), .ref (r (131)), .ref (r (132)), .ref (r (133)), .ref (r (134)), .ref (r (135)), .null, .null, .null, .null, .null, .null, .null, .null, .null, .null, .null, .null, .null, .null, .null, .null, .null, .null, .null, .null, .null, .null, .null, .null, .null, .null, .null, .null, .null, .null, .null, .null, .null, .null, .null, .null, .null] (137) s H locs := w
  refine W.widen (k := 19) (n := 5984) (by omega) (by omega) ?_
  refine n_putF C w (v := (.ref (r (136)))) nlX12_138 (by decide) (by decide) (Nat.le_of_ble_eq_true rfl) rfl rfl dX12_init_579 (fun H locs w => ?_)
  have w : n_W D b0 r 0 (117) 11 [.ref (r (118)), .ref (r (119)), .ref (r (120)), .ref (r (121)), .int 0, .int 0, .ref (r (122)), .ref (r (123)), .ref (r (124)), .ref (r (125)), .ref (r (126)), .ref (r (127)), .ref (r (128)), .ref (r (129)), .int 0, .ref (r (130)), .ref (r (131)), .ref (r (132)), .ref (r (133)), .ref (r (134)), .ref (r (135)), .ref (r (136)), .null, .null, .null, .null, .null, .null, .null, .null, .null, .null, .null, .null, .null, .null, .null, .null, .null, .null, .null, .null, .null, .null, .null, .null, .null, .null, .null, .null, .null, .null, .null, .null, .null, .null, .null, .null] (137) s H locs := w
  refine lv_aload_n C.1 C.2.1 dX12_init_582 rfl (lv_at hl 0 rfl) ?_
  refine lv_bipush (v := 16) C.1 C.2.1 dX12_init_583 (by decide) ?_
  refine n_newa (atype := .long) (n := 16) C w rfl (by unfold n_z; decide) (by simp) n_ac_long (by decide) ⟨by simp [n_rm], by simp [n_rm]⟩ dX12_init_585 (fun H w => ?_)
  have w : n_W D b0 r 0 (117) 11 [.ref (r (118)), .ref (r (119)), .ref (r (120)), .ref (r (121)), .int 0, .int 0, .ref (r (122)), .ref (r (123)), .ref (r (124)), .ref (r (125)), .ref (r (126)), .ref (r (127)), .ref (r (128)), .ref (r (129)), .int 0, .ref (r (130)), .ref (r (131)), .ref (r (132)), .ref (r (133)), .ref (r (134)), .ref (r (135)), .ref (r (136)), .null, .null, .null, .null, .null, .null, .null, .null, .null, .null, .null, .null, .null, .null, .null, .null, .null, .null, .null, .null, .null, .null, .null, .null, .null, .null, .null, .null, .null, .null, .null, .null, .null, .null, .null, .null] (138) s H locs := w
  refine W.widen (k := 20) (n := 6000) (by omega) (by omega) ?_
  refine n_putF C w (v := (.ref (r (137)))) nlX12_141 (by decide) (by decide) (Nat.le_of_ble_eq_true rfl) rfl rfl dX12_init_587 (fun H locs w => ?_)
  have w : n_W D b0 r 0 (117) 11 [.ref (r (118)), .ref (r (119)), .ref (r (120)), .ref (r (121)), .int 0, .int 0, .ref (r (122)), .ref (r (123)), .ref (r (124)), .ref (r (125)), .ref (r (126)), .ref (r (127)), .ref (r (128)), .ref (r (129)), .int 0, .ref (r (130)), .ref (r (131)), .ref (r (132)), .ref (r (133)), .ref (r (134)), .ref (r (135)), .ref (r (136)), .ref (r (137)), .null, .null, .null, .null, .null, .null, .null, .null, .null, .null, .null, .null, .null, .null, .null, .null, .null, .null, .null, .null, .null, .null, .null, .null, .null, .null, .null, .null, .null, .null, .null, .null, .null, .null, .null] (138) s H locs := w
  refine lv_aload_n C.1 C.2.1 dX12_init_590 rfl (lv_at hl 0 rfl) ?_
  refine lv_bipush (v := 16) C.1 C.2.1 dX12_init_591 (by decide) ?_
  refine n_newa (atype := .long) (n := 16) C w rfl (by unfold n_z; decide) (by simp) n_ac_long (by decide) ⟨by simp [n_rm], by simp [n_rm]⟩ dX12_init_593 (fun H w => ?_)
  have w : n_W D b0 r 0 (117) 11 [.ref (r (118)), .ref (r (119)), .ref (r (120)), .ref (r (121)), .int 0, .int 0, .ref (r (122)), .ref (r (123)), .ref (r (124)), .ref (r (125)), .ref (r (126)), .ref (r (127)), .ref (r (128)), .ref (r (129)), .int 0, .ref (r (130)), .ref (r (131)), .ref (r (132)), .ref (r (133)), .ref (r (134)), .ref (r (135)), .ref (r (136)), .ref (r (137)), .null, .null, .null, .null, .null, .null, .null, .null, .null, .null, .null, .null, .null, .null, .null, .null, .null, .null, .null, .null, .null, .null, .null, .null, .null, .null, .null, .null, .null, .null, .null, .null, .null, .null, .null] (139) s H locs := w
  refine W.widen (k := 21) (n := 6016) (by omega) (by omega) ?_
  refine n_putF C w (v := (.ref (r (138)))) nlX12_144 (by decide) (by decide) (Nat.le_of_ble_eq_true rfl) rfl rfl dX12_init_595 (fun H locs w => ?_)
  have w : n_W D b0 r 0 (117) 11 [.ref (r (118)), .ref (r (119)), .ref (r (120)), .ref (r (121)), .int 0, .int 0, .ref (r (122)), .ref (r (123)), .ref (r (124)), .ref (r (125)), .ref (r (126)), .ref (r (127)), .ref (r (128)), .ref (r (129)), .int 0, .ref (r (130)), .ref (r (131)), .ref (r (132)), .ref (r (133)), .ref (r (134)), .ref (r (135)), .ref (r (136)), .ref (r (137)), .ref (r (138)), .null, .null, .null, .null, .null, .null, .null, .null, .null, .null, .null, .null, .null, .null, .null, .null, .null, .null, .null, .null, .null, .null, .null, .null, .null, .null, .null, .null, .null, .null, .null, .null, .null, .null] (139) s H locs := w
  refine lv_aload_n C.1 C.2.1 dX12_init_598 rfl (lv_at hl 0 rfl) ?_
  refine lv_bipush (v := 16) C.1 C.2.1 dX12_init_599 (by decide) ?_
  refine n_newa (atype := .long) (n := 16) C w rfl (by unfold n_z; decide) (by simp) n_ac_long (by decide) ⟨by simp [n_rm], by simp [n_rm]⟩ dX12_init_601 (fun H w => ?_)
  have w : n_W D b0 r 0 (117) 11 [.ref (r (118)), .ref (r (119)), .ref (r (120)), .ref (r (121)), .int 0, .int 0, .ref (r (122)), .ref (r (123)), .ref (r (124)), .ref (r (125)), .ref (r (126)), .ref (r (127)), .ref (r (128)), .ref (r (129)), .int 0, .ref (r (130)), .ref (r (131)), .ref (r (132)), .ref (r (133)), .ref (r (134)), .ref (r (135)), .ref (r (136)), .ref (r (137)), .ref (r (138)), .null, .null, .null, .null, .null, .null, .null, .null, .null, .null, .null, .null, .null, .null, .null, .null, .null, .null, .null, .null, .null, .null, .null, .null, .null, .null, .null, .null, .null, .null, .null, .null, .null, .null] (140) s H locs := w
  refine W.widen (k := 22) (n := 6032) (by omega) (by omega) ?_
  refine n_putF C w (v := (.ref (r (139)))) nlX12_147 (by decide) (by decide) (Nat.le_of_ble_eq_true rfl) rfl rfl dX12_init_603 (fun H locs w => ?_)
  have w : n_W D b0 r 0 (117) 11 [.ref (r (118)), .ref (r (119)), .ref (r (120)), .ref (r (121)), .int 0, .int 0, .ref (r (122)), .ref (r (123)), .ref (r (124)), .ref (r (125)), .ref (r (126)), .ref (r (127)), .ref (r (128)), .ref (r (129)), .int 0, .ref (r (130)), .ref (r (131)), .ref (r (132)), .ref (r (133)), .ref (r (134)), .ref (r (135)), .ref (r (136)), .ref (r (137)), .ref (r (138)), .ref (r (139)), .null, .null, .null, .null, .null, .null, .null, .null, .null, .null, .null, .null, .null, .null, .null, .null, .null, .null, .null, .null, .null, .null, .null, .null, .null, .null, .null, .null, .null, .null, .null, .null, .null] (140) s H locs := w
  refine lv_aload_n C.1 C.2.1 dX12_init_606 rfl (lv_at hl 0 rfl) ?_
  refine lv_bipush (v := 16) C.1 C.2.1 dX12_init_607 (by decide) ?_
  refine n_newa (atype := .long) (n := 16) C w rfl (by unfold n_z; decide) (by simp) n_ac_long (by decide) ⟨by simp [n_rm], by simp [n_rm]⟩ dX12_init_609 (fun H w => ?_)
  have w : n_W D b0 r 0 (117) 11 [.ref (r (118)), .ref (r (119)), .ref (r (120)), .ref (r (121)), .int 0, .int 0, .ref (r (122)), .ref (r (123)), .ref (r (124)), .ref (r (125)), .ref (r (126)), .ref (r (127)), .ref (r (128)), .ref (r (129)), .int 0, .ref (r (130)), .ref (r (131)), .ref (r (132)), .ref (r (133)), .ref (r (134)), .ref (r (135)), .ref (r (136)), .ref (r (137)), .ref (r (138)), .ref (r (139)), .null, .null, .null, .null, .null, .null, .null, .null, .null, .null, .null, .null, .null, .null, .null, .null, .null, .null, .null, .null, .null, .null, .null, .null, .null, .null, .null, .null, .null, .null, .null, .null, .null] (141) s H locs := w
  refine W.widen (k := 23) (n := 6048) (by omega) (by omega) ?_
  refine n_putF C w (v := (.ref (r (140)))) nlX12_150 (by decide) (by decide) (Nat.le_of_ble_eq_true rfl) rfl rfl dX12_init_611 (fun H locs w => ?_)
  have w : n_W D b0 r 0 (117) 11 [.ref (r (118)), .ref (r (119)), .ref (r (120)), .ref (r (121)), .int 0, .int 0, .ref (r (122)), .ref (r (123)), .ref (r (124)), .ref (r (125)), .ref (r (126)), .ref (r (127)), .ref (r (128)), .ref (r (129)), .int 0, .ref (r (130)), .ref (r (131)), .ref (r (132)), .ref (r (133)), .ref (r (134)), .ref (r (135)), .ref (r (136)), .ref (r (137)), .ref (r (138)), .ref (r (139)), .ref (r (140)), .null, .null, .null, .null, .null, .null, .null, .null, .null, .null, .null, .null, .null, .null, .null, .null, .null, .null, .null, .null, .null, .null, .null, .null, .null, .null, .null, .null, .null, .null, .null, .null] (141) s H locs := w
  refine lv_aload_n C.1 C.2.1 dX12_init_614 rfl (lv_at hl 0 rfl) ?_
  refine lv_bipush (v := 16) C.1 C.2.1 dX12_init_615 (by decide) ?_
  refine n_newa (atype := .long) (n := 16) C w rfl (by unfold n_z; decide) (by simp) n_ac_long (by decide) ⟨by simp [n_rm], by simp [n_rm]⟩ dX12_init_617 (fun H w => ?_)
  have w : n_W D b0 r 0 (117) 11 [.ref (r (118)), .ref (r (119)), .ref (r (120)), .ref (r (121)), .int 0, .int 0, .ref (r (122)), .ref (r (123)), .ref (r (124)), .ref (r (125)), .ref (r (126)), .ref (r (127)), .ref (r (128)), .ref (r (129)), .int 0, .ref (r (130)), .ref (r (131)), .ref (r (132)), .ref (r (133)), .ref (r (134)), .ref (r (135)), .ref (r (136)), .ref (r (137)), .ref (r (138)), .ref (r (139)), .ref (r (140)), .null, .null, .null, .null, .null, .null, .null, .null, .null, .null, .null, .null, .null, .null, .null, .null, .null, .null, .null, .null, .null, .null, .null, .null, .null, .null, .null, .null, .null, .null, .null, .null] (142) s H locs := w
  refine W.widen (k := 24) (n := 6064) (by omega) (by omega) ?_
  refine n_putF C w (v := (.ref (r (141)))) nlX12_153 (by decide) (by decide) (Nat.le_of_ble_eq_true rfl) rfl rfl dX12_init_619 (fun H locs w => ?_)
  have w : n_W D b0 r 0 (117) 11 [.ref (r (118)), .ref (r (119)), .ref (r (120)), .ref (r (121)), .int 0, .int 0, .ref (r (122)), .ref (r (123)), .ref (r (124)), .ref (r (125)), .ref (r (126)), .ref (r (127)), .ref (r (128)), .ref (r (129)), .int 0, .ref (r (130)), .ref (r (131)), .ref (r (132)), .ref (r (133)), .ref (r (134)), .ref (r (135)), .ref (r (136)), .ref (r (137)), .ref (r (138)), .ref (r (139)), .ref (r (140)), .ref (r (141)), .null, .null, .null, .null, .null, .null, .null, .null, .null, .null, .null, .null, .null, .null, .null, .null, .null, .null, .null, .null, .null, .null, .null, .null, .null, .null, .null, .null, .null, .null, .null] (142) s H locs := w
  refine lv_aload_n C.1 C.2.1 dX12_init_622 rfl (lv_at hl 0 rfl) ?_
  refine lv_bipush (v := 16) C.1 C.2.1 dX12_init_623 (by decide) ?_
  refine n_newa (atype := .long) (n := 16) C w rfl (by unfold n_z; decide) (by simp) n_ac_long (by decide) ⟨by simp [n_rm], by simp [n_rm]⟩ dX12_init_625 (fun H w => ?_)
  have w : n_W D b0 r 0 (117) 11 [.ref (r (118)), .ref (r (119)), .ref (r (120)), .ref (r (121)), .int 0, .int 0, .ref (r (122)), .ref (r (123)), .ref (r (124)), .ref (r (125)), .ref (r (126)), .ref (r (127)), .ref (r (128)), .ref (r (129)), .int 0, .ref (r (130)), .ref (r (131)), .ref (r (132)), .ref (r (133)), .ref (r (134)), .ref (r (135)), .ref (r (136)), .ref (r (137)), .ref (r (138)), .ref (r (139)), .ref (r (140)), .ref (r (141)), .null, .null, .null, .null, .null, .null, .null, .null, .null, .null, .null, .null, .null, .null, .null, .null, .null, .null, .null, .null, .null, .null, .null, .null, .null, .null, .null, .null, .null, .null, .null] (143) s H locs := w
  refine W.widen (k := 25) (n := 6080) (by omega) (by omega) ?_
  refine n_putF C w (v := (.ref (r (142)))) nlX12_156 (by decide) (by decide) (Nat.le_of_ble_eq_true rfl) rfl rfl dX12_init_627 (fun H locs w => ?_)
  have w : n_W D b0 r 0 (117) 11 [.ref (r (118)), .ref (r (119)), .ref (r (120)), .ref (r (121)), .int 0, .int 0, .ref (r (122)), .ref (r (123)), .ref (r (124)), .ref (r (125)), .ref (r (126)), .ref (r (127)), .ref (r (128)), .ref (r (129)), .int 0, .ref (r (130)), .ref (r (131)), .ref (r (132)), .ref (r (133)), .ref (r (134)), .ref (r (135)), .ref (r (136)), .ref (r (137)), .ref (r (138)), .ref (r (139)), .ref (r (140)), .ref (r (141)), .ref (r (142)), .null, .null, .null, .null, .null, .null, .null, .null, .null, .null, .null, .null, .null, .null, .null, .null, .null, .null, .null, .null, .null, .null, .null, .null, .null, .null, .null, .null, .null, .null] (143) s H locs := w
  refine lv_aload_n C.1 C.2.1 dX12_init_630 rfl (lv_at hl 0 rfl) ?_
  refine lv_bipush (v := 31) C.1 C.2.1 dX12_init_631 (by decide) ?_
  refine n_newa (atype := .long) (n := 31) C w rfl (by unfold n_z; decide) (by simp) n_ac_long (by decide) ⟨by simp [n_rm], by simp [n_rm]⟩ dX12_init_633 (fun H w => ?_)
  have w : n_W D b0 r 0 (117) 11 [.ref (r (118)), .ref (r (119)), .ref (r (120)), .ref (r (121)), .int 0, .int 0, .ref (r (122)), .ref (r (123)), .ref (r (124)), .ref (r (125)), .ref (r (126)), .ref (r (127)), .ref (r (128)), .ref (r (129)), .int 0, .ref (r (130)), .ref (r (131)), .ref (r (132)), .ref (r (133)), .ref (r (134)), .ref (r (135)), .ref (r (136)), .ref (r (137)), .ref (r (138)), .ref (r (139)), .ref (r (140)), .ref (r (141)), .ref (r (142)), .null, .null, .null, .null, .null, .null, .null, .null, .null, .null, .null, .null, .null, .null, .null, .null, .null, .null, .null, .null, .null, .null, .null, .null, .null, .null, .null, .null, .null, .null] (144) s H locs := w
  refine W.widen (k := 26) (n := 6111) (by omega) (by omega) ?_
  refine n_putF C w (v := (.ref (r (143)))) nlX12_159 (by decide) (by decide) (Nat.le_of_ble_eq_true rfl) rfl rfl dX12_init_635 (fun H locs w => ?_)
  have w : n_W D b0 r 0 (117) 11 [.ref (r (118)), .ref (r (119)), .ref (r (120)), .ref (r (121)), .int 0, .int 0, .ref (r (122)), .ref (r (123)), .ref (r (124)), .ref (r (125)), .ref (r (126)), .ref (r (127)), .ref (r (128)), .ref (r (129)), .int 0, .ref (r (130)), .ref (r (131)), .ref (r (132)), .ref (r (133)), .ref (r (134)), .ref (r (135)), .ref (r (136)), .ref (r (137)), .ref (r (138)), .ref (r (139)), .ref (r (140)), .ref (r (141)), .ref (r (142)), .ref (r (143)), .null, .null, .null, .null, .null, .null, .null, .null, .null, .null, .null, .null, .null, .null, .null, .null, .null, .null, .null, .null, .null, .null, .null, .null, .null, .null, .null, .null, .null] (144) s H locs := w
  refine lv_aload_n C.1 C.2.1 dX12_init_638 rfl (lv_at hl 0 rfl) ?_
  refine lv_bipush (v := 32) C.1 C.2.1 dX12_init_639 (by decide) ?_
  refine n_newa (atype := .byte) (n := 32) C w rfl (by unfold n_z; decide) (by simp) n_ac_byte (by decide) ⟨by simp [n_rm], by simp [n_rm]⟩ dX12_init_641 (fun H w => ?_)
  have w : n_W D b0 r 0 (117) 11 [.ref (r (118)), .ref (r (119)), .ref (r (120)), .ref (r (121)), .int 0, .int 0, .ref (r (122)), .ref (r (123)), .ref (r (124)), .ref (r (125)), .ref (r (126)), .ref (r (127)), .ref (r (128)), .ref (r (129)), .int 0, .ref (r (130)), .ref (r (131)), .ref (r (132)), .ref (r (133)), .ref (r (134)), .ref (r (135)), .ref (r (136)), .ref (r (137)), .ref (r (138)), .ref (r (139)), .ref (r (140)), .ref (r (141)), .ref (r (142)), .ref (r (143)), .null, .null, .null, .null, .null, .null, .null, .null, .null, .null, .null, .null, .null, .null, .null, .null, .null, .null, .null, .null, .null, .null, .null, .null, .null, .null, .null, .null, .null] (145) s H locs := w
  refine W.widen (k := 27) (n := 6143) (by omega) (by omega) ?_
  refine n_putF C w (v := (.ref (r (144)))) nlX12_162 (by decide) (by decide) (Nat.le_of_ble_eq_true rfl) rfl rfl dX12_init_643 (fun H locs w => ?_)
  have w : n_W D b0 r 0 (117) 11 [.ref (r (118)), .ref (r (119)), .ref (r (120)), .ref (r (121)), .int 0, .int 0, .ref (r (122)), .ref (r (123)), .ref (r (124)), .ref (r (125)), .ref (r (126)), .ref (r (127)), .ref (r (128)), .ref (r (129)), .int 0, .ref (r (130)), .ref (r (131)), .ref (r (132)), .ref (r (133)), .ref (r (134)), .ref (r (135)), .ref (r (136)), .ref (r (137)), .ref (r (138)), .ref (r (139)), .ref (r (140)), .ref (r (141)), .ref (r (142)), .ref (r (143)), .ref (r (144)), .null, .null, .null, .null, .null, .null, .null, .null, .null, .null, .null, .null, .null, .null, .null, .null, .null, .null, .null, .null, .null, .null, .null, .null, .null, .null, .null, .null] (145) s H locs := w
  refine lv_aload_n C.1 C.2.1 dX12_init_646 rfl (lv_at hl 0 rfl) ?_
  refine lv_bipush (v := 32) C.1 C.2.1 dX12_init_647 (by decide) ?_
  refine n_newa (atype := .byte) (n := 32) C w rfl (by unfold n_z; decide) (by simp) n_ac_byte (by decide) ⟨by simp [n_rm], by simp [n_rm]⟩ dX12_init_649 (fun H w => ?_)
  have w : n_W D b0 r 0 (117) 11 [.ref (r (118)), .ref (r (119)), .ref (r (120)), .ref (r (121)), .int 0, .int 0, .ref (r (122)), .ref (r (123)), .ref (r (124)), .ref (r (125)), .ref (r (126)), .ref (r (127)), .ref (r (128)), .ref (r (129)), .int 0, .ref (r (130)), .ref (r (131)), .ref (r (132)), .ref (r (133)), .ref (r (134)), .ref (r (135)), .ref (r (136)), .ref (r (137)), .ref (r (138)), .ref (r (139)), .ref (r (140)), .ref (r (141)), .ref (r (142)), .ref (r (143)), .ref (r (144)), .null, .null, .null, .null, .null, .null, .null, .null, .null, .null, .null, .null, .null, .null, .null, .null, .null, .null, .null, .null, .null, .null, .null, .null, .null, .null, .null, .null] (146) s H locs := w
  refine W.widen (k := 28) (n := 6175) (by omega) (by omega) ?_
  refine n_putF C w (v := (.ref (r (145)))) nlX12_165 (by decide) (by decide) (Nat.le_of_ble_eq_true rfl) rfl rfl dX12_init_651 (fun H locs w => ?_)
  have w : n_W D b0 r 0 (117) 11 [.ref (r (118)), .ref (r (119)), .ref (r (120)), .ref (r (121)), .int 0, .int 0, .ref (r (122)), .ref (r (123)), .ref (r (124)), .ref (r (125)), .ref (r (126)), .ref (r (127)), .ref (r (128)), .ref (r (129)), .int 0, .ref (r (130)), .ref (r (131)), .ref (r (132)), .ref (r (133)), .ref (r (134)), .ref (r (135)), .ref (r (136)), .ref (r (137)), .ref (r (138)), .ref (r (139)), .ref (r (140)), .ref (r (141)), .ref (r (142)), .ref (r (143)), .ref (r (144)), .ref (r (145)), .null, .null, .null, .null, .null, .null, .null, .null, .null, .null, .null, .null, .null, .null, .null, .null, .null, .null, .null, .null, .null, .null, .null, .null, .null, .null, .null] (146) s H locs := w
  refine lv_aload_n C.1 C.2.1 dX12_init_654 rfl (lv_at hl 0 rfl) ?_
  refine lv_bipush (v := 32) C.1 C.2.1 dX12_init_655 (by decide) ?_
  refine n_newa (atype := .byte) (n := 32) C w rfl (by unfold n_z; decide) (by simp) n_ac_byte (by decide) ⟨by simp [n_rm], by simp [n_rm]⟩ dX12_init_657 (fun H w => ?_)
  have w : n_W D b0 r 0 (117) 11 [.ref (r (118)), .ref (r (119)), .ref (r (120)), .ref (r (121)), .int 0, .int 0, .ref (r (122)), .ref (r (123)), .ref (r (124)), .ref (r (125)), .ref (r (126)), .ref (r (127)), .ref (r (128)), .ref (r (129)), .int 0, .ref (r (130)), .ref (r (131)), .ref (r (132)), .ref (r (133)), .ref (r (134)), .ref (r (135)), .ref (r (136)), .ref (r (137)), .ref (r (138)), .ref (r (139)), .ref (r (140)), .ref (r (141)), .ref (r (142)), .ref (r (143)), .ref (r (144)), .ref (r (145)), .null, .null, .null, .null, .null, .null, .null, .null, .null, .null, .null, .null, .null, .null, .null, .null, .null, .null, .null, .null, .null, .null, .null, .null, .null, .null, .null] (147) s H locs := w
  refine W.widen (k := 29) (n := 6207) (by omega) (by omega) ?_
  refine n_putF C w (v := (.ref (r (146)))) nlX12_168 (by decide) (by decide) (Nat.le_of_ble_eq_true rfl) rfl rfl dX12_init_659 (fun H locs w => ?_)
  have w : n_W D b0 r 0 (117) 11 [.ref (r (118)), .ref (r (119)), .ref (r (120)), .ref (r (121)), .int 0, .int 0, .ref (r (122)), .ref (r (123)), .ref (r (124)), .ref (r (125)), .ref (r (126)), .ref (r (127)), .ref (r (128)), .ref (r (129)), .int 0, .ref (r (130)), .ref (r (131)), .ref (r (132)), .ref (r (133)), .ref (r (134)), .ref (r (135)), .ref (r (136)), .ref (r (137)), .ref (r (138)), .ref (r (139)), .ref (r (140)), .ref (r (141)), .ref (r (142)), .ref (r (143)), .ref (r (144)), .ref (r (145)), .ref (r (146)), .null, .null, .null, .null, .null, .null, .null, .null, .null, .null, .null, .null, .null, .null, .null, .null, .null, .null, .null, .null, .null, .null, .null, .null, .null, .null] (147) s H locs := w
  refine lv_aload_n C.1 C.2.1 dX12_init_662 rfl (lv_at hl 0 rfl) ?_
  refine lv_bipush (v := 16) C.1 C.2.1 dX12_init_663 (by decide) ?_
  refine n_newa (atype := .int) (n := 16) C w rfl (by unfold n_z; decide) (by simp) n_ac_int (by decide) ⟨by simp [n_rm], by simp [n_rm]⟩ dX12_init_665 (fun H w => ?_)
  have w : n_W D b0 r 0 (117) 11 [.ref (r (118)), .ref (r (119)), .ref (r (120)), .ref (r (121)), .int 0, .int 0, .ref (r (122)), .ref (r (123)), .ref (r (124)), .ref (r (125)), .ref (r (126)), .ref (r (127)), .ref (r (128)), .ref (r (129)), .int 0, .ref (r (130)), .ref (r (131)), .ref (r (132)), .ref (r (133)), .ref (r (134)), .ref (r (135)), .ref (r (136)), .ref (r (137)), .ref (r (138)), .ref (r (139)), .ref (r (140)), .ref (r (141)), .ref (r (142)), .ref (r (143)), .ref (r (144)), .ref (r (145)), .ref (r (146)), .null, .null, .null, .null, .null, .null, .null, .null, .null, .null, .null, .null, .null, .null, .null, .null, .null, .null, .null, .null, .null, .null, .null, .null, .null, .null] (148) s H locs := w
  refine W.widen (k := 30) (n := 6223) (by omega) (by omega) ?_
  refine n_putF C w (v := (.ref (r (147)))) nlX12_171 (by decide) (by decide) (Nat.le_of_ble_eq_true rfl) rfl rfl dX12_init_667 (fun H locs w => ?_)
  have w : n_W D b0 r 0 (117) 11 [.ref (r (118)), .ref (r (119)), .ref (r (120)), .ref (r (121)), .int 0, .int 0, .ref (r (122)), .ref (r (123)), .ref (r (124)), .ref (r (125)), .ref (r (126)), .ref (r (127)), .ref (r (128)), .ref (r (129)), .int 0, .ref (r (130)), .ref (r (131)), .ref (r (132)), .ref (r (133)), .ref (r (134)), .ref (r (135)), .ref (r (136)), .ref (r (137)), .ref (r (138)), .ref (r (139)), .ref (r (140)), .ref (r (141)), .ref (r (142)), .ref (r (143)), .ref (r (144)), .ref (r (145)), .ref (r (146)), .ref (r (147)), .null, .null, .null, .null, .null, .null, .null, .null, .null, .null, .null, .null, .null, .null, .null, .null, .null, .null, .null, .null, .null, .null, .null, .null, .null] (148) s H locs := w
  refine lv_aload_n C.1 C.2.1 dX12_init_670 rfl (lv_at hl 0 rfl) ?_
  refine lv_bipush (v := 16) C.1 C.2.1 dX12_init_671 (by decide) ?_
  refine n_newa (atype := .int) (n := 16) C w rfl (by unfold n_z; decide) (by simp) n_ac_int (by decide) ⟨by simp [n_rm], by simp [n_rm]⟩ dX12_init_673 (fun H w => ?_)
  have w : n_W D b0 r 0 (117) 11 [.ref (r (118)), .ref (r (119)), .ref (r (120)), .ref (r (121)), .int 0, .int 0, .ref (r (122)), .ref (r (123)), .ref (r (124)), .ref (r (125)), .ref (r (126)), .ref (r (127)), .ref (r (128)), .ref (r (129)), .int 0, .ref (r (130)), .ref (r (131)), .ref (r (132)), .ref (r (133)), .ref (r (134)), .ref (r (135)), .ref (r (136)), .ref (r (137)), .ref (r (138)), .ref (r (139)), .ref (r (140)), .ref (r (141)), .ref (r (142)), .ref (r (143)), .ref (r (144)), .ref (r (145)), .ref (r (146)), .ref (r (147)), .null, .null, .null, .null, .null, .null, .null, .null, .null, .null, .null, .null, .null, .null, .null, .null, .null, .null, .null, .null, .null, .null, .null, .null, .null] (149) s H locs := w
  refine W.widen (k := 31) (n := 6239) (by omega) (by omega) ?_
  refine n_putF C w (v := (.ref (r (148)))) nlX12_174 (by decide) (by decide) (Nat.le_of_ble_eq_true rfl) rfl rfl dX12_init_675 (fun H locs w => ?_)
  have w : n_W D b0 r 0 (117) 11 [.ref (r (118)), .ref (r (119)), .ref (r (120)), .ref (r (121)), .int 0, .int 0, .ref (r (122)), .ref (r (123)), .ref (r (124)), .ref (r (125)), .ref (r (126)), .ref (r (127)), .ref (r (128)), .ref (r (129)), .int 0, .ref (r (130)), .ref (r (131)), .ref (r (132)), .ref (r (133)), .ref (r (134)), .ref (r (135)), .ref (r (136)), .ref (r (137)), .ref (r (138)), .ref (r (139)), .ref (r (140)), .ref (r (141)), .ref (r (142)), .ref (r (143)), .ref (r (144)), .ref (r (145)), .ref (r (146)), .ref (r (147)), .ref (r (148)), .null, .null, .null, .null, .null, .null, .null, .null, .null, .null, .null, .null, .null, .null, .null, .null, .null, .null, .null, .null, .null, .null, .null, .null] (149) s H locs := w
  refine lv_aload_n C.1 C.2.1 dX12_init_678 rfl (lv_at hl 0 rfl) ?_
  refine lv_bipush (v := 64) C.1 C.2.1 dX12_init_679 (by decide) ?_
  refine n_newa (atype := .byte) (n := 64) C w rfl (by unfold n_z; decide) (by simp) n_ac_byte (by decide) ⟨by simp [n_rm], by simp [n_rm]⟩ dX12_init_681 (fun H w => ?_)
  have w : n_W D b0 r 0 (117) 11 [.ref (r (118)), .ref (r (119)), .ref (r (120)), .ref (r (121)), .int 0, .int 0, .ref (r (122)), .ref (r (123)), .ref (r (124)), .ref (r (125)), .ref (r (126)), .ref (r (127)), .ref (r (128)), .ref (r (129)), .int 0, .ref (r (130)), .ref (r (131)), .ref (r (132)), .ref (r (133)), .ref (r (134)), .ref (r (135)), .ref (r (136)), .ref (r (137)), .ref (r (138)), .ref (r (139)), .ref (r (140)), .ref (r (141)), .ref (r (142)), .ref (r (143)), .ref (r (144)), .ref (r (145)), .ref (r (146)), .ref (r (147)), .ref (r (148)), .null, .null, .null, .null, .null, .null, .null, .null, .null, .null, .null, .null, .null, .null, .null, .null, .null, .null, .null, .null, .null, .null, .null, .null] (150) s H locs := w
  refine W.widen (k := 32) (n := 6303) (by omega) (by omega) ?_
  refine n_putF C w (v := (.ref (r (149)))) nlX12_177 (by decide) (by decide) (Nat.le_of_ble_eq_true rfl) rfl rfl dX12_init_683 (fun H locs w => ?_)
  have w : n_W D b0 r 0 (117) 11 [.ref (r (118)), .ref (r (119)), .ref (r (120)), .ref (r (121)), .int 0, .int 0, .ref (r (122)), .ref (r (123)), .ref (r (124)), .ref (r (125)), .ref (r (126)), .ref (r (127)), .ref (r (128)), .ref (r (129)), .int 0, .ref (r (130)), .ref (r (131)), .ref (r (132)), .ref (r (133)), .ref (r (134)), .ref (r (135)), .ref (r (136)), .ref (r (137)), .ref (r (138)), .ref (r (139)), .ref (r (140)), .ref (r (141)), .ref (r (142)), .ref (r (143)), .ref (r (144)), .ref (r (145)), .ref (r (146)), .ref (r (147)), .ref (r (148)), .ref (r (149)), .null, .null, .null, .null, .null, .null, .null, .null, .null, .null, .null, .null, .null, .null, .null, .null, .null, .null, .null, .null, .null, .null, .null] (150) s H locs := w
  refine lv_aload_n C.1 C.2.1 dX12_init_686 rfl (lv_at hl 0 rfl) ?_
  refine lv_bipush (v := 17) C.1 C.2.1 dX12_init_687 (by decide) ?_
  refine n_newa (atype := .int) (n := 17) C w rfl (by unfold n_z; decide) (by simp) n_ac_int (by decide) ⟨by simp [n_rm], by simp [n_rm]⟩ dX12_init_689 (fun H w => ?_)
  have w : n_W D b0 r 0 (117) 11 [.ref (r (118)), .ref (r (119)), .ref (r (120)), .ref (r (121)), .int 0, .int 0, .ref (r (122)), .ref (r (123)), .ref (r (124)), .ref (r (125)), .ref (r (126)), .ref (r (127)), .ref (r (128)), .ref (r (129)), .int 0, .ref (r (130)), .ref (r (131)), .ref (r (132)), .ref (r (133)), .ref (r (134)), .ref (r (135)), .ref (r (136)), .ref (r (137)), .ref (r (138)), .ref (r (139)), .ref (r (140)), .ref (r (141)), .ref (r (142)), .ref (r (143)), .ref (r (144)), .ref (r (145)), .ref (r (146)), .ref (r (147)), .ref (r (148)), .ref (r (149)), .null, .null, .null, .null, .null, .null, .null, .null, .null, .null, .null, .null, .null, .null, .null, .null, .null, .null, .null, .null, .null, .null, .null] (151) s H locs := w
  refine W.widen (k := 33) (n := 6320) (by omega) (by omega) ?_
  refine n_putF C w (v := (.ref (r (150)))) nlX12_180 (by decide) (by decide) (Nat.le_of_ble_eq_true rfl) rfl rfl dX12_init_691 (fun H locs w => ?_)
  have w : n_W D b0 r 0 (117) 11 [.ref (r (118)), .ref (r (119)), .ref (r (120)), .ref (r (121)), .int 0, .int 0, .ref (r (122)), .ref (r (123)), .ref (r (124)), .ref (r (125)), .ref (r (126)), .ref (r (127)), .ref (r (128)), .ref (r (129)), .int 0, .ref (r (130)), .ref (r (131)), .ref (r (132)), .ref (r (133)), .ref (r (134)), .ref (r (135)), .ref (r (136)), .ref (r (137)), .ref (r (138)), .ref (r (139)), .ref (r (140)), .ref (r (141)), .ref (r (142)), .ref (r (143)), .ref (r (144)), .ref (r (145)), .ref (r (146)), .ref (r (147)), .ref (r (148)), .ref (r (149)), .ref (r (150)), .null, .null, .null, .null, .null, .null, .null, .null, .null, .null, .null, .null, .null, .null, .null, .null, .null, .null, .null, .null, .null, .null] (151) s H locs := w
  refine lv_aload_n C.1 C.2.1 dX12_init_694 rfl (lv_at hl 0 rfl) ?_
  refine lv_bipush (v := 17) C.1 C.2.1 dX12_init_695 (by decide) ?_
  refine n_newa (atype := .int) (n := 17) C w rfl (by unfold n_z; decide) (by simp) n_ac_int (by decide) ⟨by simp [n_rm], by simp [n_rm]⟩ dX12_init_697 (fun H w => ?_)
  have w : n_W D b0 r 0 (117) 11 [.ref (r (118)), .ref (r (119)), .ref (r (120)), .ref (r (121)), .int 0, .int 0, .ref (r (122)), .ref (r (123)), .ref (r (124)), .ref (r (125)), .ref (r (126)), .ref (r (127)), .ref (r (128)), .ref (r (129)), .int 0, .ref (r (130)), .ref (r (131)), .ref (r (132)), .ref (r (133)), .ref (r (134)), .ref (r (135)), .ref (r (136)), .ref (r (137)), .ref (r (138)), .ref (r (139)), .ref (r (140)), .ref (r (141)), .ref (r (142)), .ref (r (143)), .ref (r (144)), .ref (r (145)), .ref (r (146)), .ref (r (147)), .ref (r (148)), .ref (r (149)), .ref (r (150)), .null, .null, .null, .null, .null, .null, .null, .null, .null, .null, .null, .null, .null, .null, .null, .null, .null, .null, .null, .null, .null, .null] (152) s H locs := w
  refine W.widen (k := 34) (n := 6337) (by omega) (by omega) ?_
  refine n_putF C w (v := (.ref (r (151)))) nlX12_183 (by decide) (by decide) (Nat.le_of_ble_eq_true rfl) rfl rfl dX12_init_699 (fun H locs w => ?_)
  have w : n_W D b0 r 0 (117) 11 [.ref (r (118)), .ref (r (119)), .ref (r (120)), .ref (r (121)), .int 0, .int 0, .ref (r (122)), .ref (r (123)), .ref (r (124)), .ref (r (125)), .ref (r (126)), .ref (r (127)), .ref (r (128)), .ref (r (129)), .int 0, .ref (r (130)), .ref (r (131)), .ref (r (132)), .ref (r (133)), .ref (r (134)), .ref (r (135)), .ref (r (136)), .ref (r (137)), .ref (r (138)), .ref (r (139)), .ref (r (140)), .ref (r (141)), .ref (r (142)), .ref (r (143)), .ref (r (144)), .ref (r (145)), .ref (r (146)), .ref (r (147)), .ref (r (148)), .ref (r (149)), .ref (r (150)), .ref (r (151)), .null, .null, .null, .null, .null, .null, .null, .null, .null, .null, .null, .null, .null, .null, .null, .null, .null, .null, .null, .null, .null] (152) s H locs := w
  refine lv_aload_n C.1 C.2.1 dX12_init_702 rfl (lv_at hl 0 rfl) ?_
  refine lv_bipush (v := 17) C.1 C.2.1 dX12_init_703 (by decide) ?_
  refine n_newa (atype := .int) (n := 17) C w rfl (by unfold n_z; decide) (by simp) n_ac_int (by decide) ⟨by simp [n_rm], by simp [n_rm]⟩ dX12_init_705 (fun H w => ?_)
  have w : n_W D b0 r 0 (117) 11 [.ref (r (118)), .ref (r (119)), .ref (r (120)), .ref (r (121)), .int 0, .int 0, .ref (r (122)), .ref (r (123)), .ref (r (124)), .ref (r (125)), .ref (r (126)), .ref (r (127)), .ref (r (128)), .ref (r (129)), .int 0, .ref (r (130)), .ref (r (131)), .ref (r (132)), .ref (r (133)), .ref (r (134)), .ref (r (135)), .ref (r (136)), .ref (r (137)), .ref (r (138)), .ref (r (139)), .ref (r (140)), .ref (r (141)), .ref (r (142)), .ref (r (143)), .ref (r (144)), .ref (r (145)), .ref (r (146)), .ref (r (147)), .ref (r (148)), .ref (r (149)), .ref (r (150)), .ref (r (151)), .null, .null, .null, .null, .null, .null, .null, .null, .null, .null, .null, .null, .null, .null, .null, .null, .null, .null, .null, .null, .null] (153) s H locs := w
  refine W.widen (k := 35) (n := 6354) (by omega) (by omega) ?_
  refine n_putF C w (v := (.ref (r (152)))) nlX12_186 (by decide) (by decide) (Nat.le_of_ble_eq_true rfl) rfl rfl dX12_init_707 (fun H locs w => ?_)
  have w : n_W D b0 r 0 (117) 11 [.ref (r (118)), .ref (r (119)), .ref (r (120)), .ref (r (121)), .int 0, .int 0, .ref (r (122)), .ref (r (123)), .ref (r (124)), .ref (r (125)), .ref (r (126)), .ref (r (127)), .ref (r (128)), .ref (r (129)), .int 0, .ref (r (130)), .ref (r (131)), .ref (r (132)), .ref (r (133)), .ref (r (134)), .ref (r (135)), .ref (r (136)), .ref (r (137)), .ref (r (138)), .ref (r (139)), .ref (r (140)), .ref (r (141)), .ref (r (142)), .ref (r (143)), .ref (r (144)), .ref (r (145)), .ref (r (146)), .ref (r (147)), .ref (r (148)), .ref (r (149)), .ref (r (150)), .ref (r (151)), .ref (r (152)), .null, .null, .null, .null, .null, .null, .null, .null, .null, .null, .null, .null, .null, .null, .null, .null, .null, .null, .null, .null] (153) s H locs := w
  refine lv_aload_n C.1 C.2.1 dX12_init_710 rfl (lv_at hl 0 rfl) ?_
  refine lv_bipush (v := 17) C.1 C.2.1 dX12_init_711 (by decide) ?_
  refine n_newa (atype := .int) (n := 17) C w rfl (by unfold n_z; decide) (by simp) n_ac_int (by decide) ⟨by simp [n_rm], by simp [n_rm]⟩ dX12_init_713 (fun H w => ?_)
  have w : n_W D b0 r 0 (117) 11 [.ref (r (118)), .ref (r (119)), .ref (r (120)), .ref (r (121)), .int 0, .int 0, .ref (r (122)), .ref (r (123)), .ref (r (124)), .ref (r (125)), .ref (r (126)), .ref (r (127)), .ref (r (128)), .ref (r (129)), .int 0, .ref (r (130)), .ref (r (131)), .ref (r (132)), .ref (r (133)), .ref (r (134)), .ref (r (135)), .ref (r (136)), .ref (r (137)), .ref (r (138)), .ref (r (139)), .ref (r (140)), .ref (r (141)), .ref (r (142)), .ref (r (143)), .ref (r (144)), .ref (r (145)), .ref (r (146)), .ref (r (147)), .ref (r (148)), .ref (r (149)), .ref (r (150)), .ref (r (151)), .ref (r (152)), .null, .null, .null, .null, .null, .null, .null, .null, .null, .null, .null, .null, .null, .null, .null, .null, .null, .null, .null, .null] (154) s H locs := w
  refine W.widen (k := 36) (n := 6371) (by omega) (by omega) ?_
  refine n_putF C w (v := (.ref (r (153)))) nlX12_189 (by decide) (by decide) (Nat.le_of_ble_eq_true rfl) rfl rfl dX12_init_715 (fun H locs w => ?_)
  have w : n_W D b0 r 0 (117) 11 [.ref (r (118)), .ref (r (119)), .ref (r (120)), .ref (r (121)), .int 0, .int 0, .ref (r (122)), .ref (r (123)), .ref (r (124)), .ref (r (125)), .ref (r (126)), .ref (r (127)), .ref (r (128)), .ref (r (129)), .int 0, .ref (r (130)), .ref (r (131)), .ref (r (132)), .ref (r (133)), .ref (r (134)), .ref (r (135)), .ref (r (136)), .ref (r (137)), .ref (r (138)), .ref (r (139)), .ref (r (140)), .ref (r (141)), .ref (r (142)), .ref (r (143)), .ref (r (144)), .ref (r (145)), .ref (r (146)), .ref (r (147)), .ref (r (148)), .ref (r (149)), .ref (r (150)), .ref (r (151)), .ref (r (152)), .ref (r (153)), .null, .null, .null, .null, .null, .null, .null, .null, .null, .null, .null, .null, .null, .null, .null, .null, .null, .null, .null] (154) s H locs := w
  refine lv_aload_n C.1 C.2.1 dX12_init_718 rfl (lv_at hl 0 rfl) ?_
  refine lv_bipush (v := 17) C.1 C.2.1 dX12_init_719 (by decide) ?_
  refine n_newa (atype := .int) (n := 17) C w rfl (by unfold n_z; decide) (by simp) n_ac_int (by decide) ⟨by simp [n_rm], by simp [n_rm]⟩ dX12_init_721 (fun H w => ?_)
  have w : n_W D b0 r 0 (117) 11 [.ref (r (118)), .ref (r (119)), .ref (r (120)), .ref (r (121)), .int 0, .int 0, .ref (r (122)), .ref (r (123)), .ref (r (124)), .ref (r (125)), .ref (r (126)), .ref (r (127)), .ref (r (128)), .ref (r (129)), .int 0, .ref (r (130)), .ref (r (131)), .ref (r (132)), .ref (r (133)), .ref (r (134)), .ref (r (135)), .ref (r (136)), .ref (r (137)), .ref (r (138)), .ref (r (139)), .ref (r (140)), .ref (r (141)), .ref (r (142)), .ref (r (143)), .ref (r (144)), .ref (r (145)), .ref (r (146)), .ref (r (147)), .ref (r (148)), .ref (r (149)), .ref (r (150)), .ref (r (151)), .ref (r (152)), .ref (r (153)), .null, .null, .null, .null, .null, .null, .null, .null, .null, .null, .null, .null, .null, .null, .null, .null, .null, .null, .null] (155) s H locs := w
  refine W.widen (k := 37) (n := 6388) (by omega) (by omega) ?_
  refine n_putF C w (v := (.ref (r (154)))) nlX12_192 (by decide) (by decide) (Nat.le_of_ble_eq_true rfl) rfl rfl dX12_init_723 (fun H locs w => ?_)
  have w : n_W D b0 r 0 (117) 11 [.ref (r (118)), .ref (r (119)), .ref (r (120)), .ref (r (121)), .int 0, .int 0, .ref (r (122)), .ref (r (123)), .ref (r (124)), .ref (r (125)), .ref (r (126)), .ref (r (127)), .ref (r (128)), .ref (r (129)), .int 0, .ref (r (130)), .ref (r (131)), .ref (r (132)), .ref (r (133)), .ref (r (134)), .ref (r (135)), .ref (r (136)), .ref (r (137)), .ref (r (138)), .ref (r (139)), .ref (r (140)), .ref (r (141)), .ref (r (142)), .ref (r (143)), .ref (r (144)), .ref (r (145)), .ref (r (146)), .ref (r (147)), .ref (r (148)), .ref (r (149)), .ref (r (150)), .ref (r (151)), .ref (r (152)), .ref (r (153)), .ref (r (154)), .null, .null, .null, .null, .null, .null, .null, .null, .null, .null, .null, .null, .null, .null, .null, .null, .null, .null] (155) s H locs := w
  refine lv_aload_n C.1 C.2.1 dX12_init_726 rfl (lv_at hl 0 rfl) ?_
  refine lv_bipush (v := 32) C.1 C.2.1 dX12_init_727 (by decide) ?_
  refine n_newa (atype := .byte) (n := 32) C w rfl (by unfold n_z; decide) (by simp) n_ac_byte (by decide) ⟨by simp [n_rm], by simp [n_rm]⟩ dX12_init_729 (fun H w => ?_)
  have w : n_W D b0 r 0 (117) 11 [.ref (r (118)), .ref (r (119)), .ref (r (120)), .ref (r (121)), .int 0, .int 0, .ref (r (122)), .ref (r (123)), .ref (r (124)), .ref (r (125)), .ref (r (126)), .ref (r (127)), .ref (r (128)), .ref (r (129)), .int 0, .ref (r (130)), .ref (r (131)), .ref (r (132)), .ref (r (133)), .ref (r (134)), .ref (r (135)), .ref (r (136)), .ref (r (137)), .ref (r (138)), .ref (r (139)), .ref (r (140)), .ref (r (141)), .ref (r (142)), .ref (r (143)), .ref (r (144)), .ref (r (145)), .ref (r (146)), .ref (r (147)), .ref (r (148)), .ref (r (149)), .ref (r (150)), .ref (r (151)), .ref (r (152)), .ref (r (153)), .ref (r (154)), .null, .null, .null, .null, .null, .null, .null, .null, .null, .null, .null, .null, .null, .null, .null, .null, .null, .null] (156) s H locs := w
  refine W.widen (k := 38) (n := 6420) (by omega) (by omega) ?_
  refine n_putF C w (v := (.ref (r (155)))) nlX12_195 (by decide) (by decide) (Nat.le_of_ble_eq_true rfl) rfl rfl dX12_init_731 (fun H locs w => ?_)
  have w : n_W D b0 r 0 (117) 11 [.ref (r (118)), .ref (r (119)), .ref (r (120)), .ref (r (121)), .int 0, .int 0, .ref (r (122)), .ref (r (123)), .ref (r (124)), .ref (r (125)), .ref (r (126)), .ref (r (127)), .ref (r (128)), .ref (r (129)), .int 0, .ref (r (130)), .ref (r (131)), .ref (r (132)), .ref (r (133)), .ref (r (134)), .ref (r (135)), .ref (r (136)), .ref (r (137)), .ref (r (138)), .ref (r (139)), .ref (r (140)), .ref (r (141)), .ref (r (142)), .ref (r (143)), .ref (r (144)), .ref (r (145)), .ref (r (146)), .ref (r (147)), .ref (r (148)), .ref (r (149)), .ref (r (150)), .ref (r (151)), .ref (r (152)), .ref (r (153)), .ref (r (154)), .ref (r (155)), .null, .null, .null, .null, .null, .null, .null, .null, .null, .null, .null, .null, .null, .null, .null, .null, .null] (156) s H locs := w
  refine lv_aload_n C.1 C.2.1 dX12_init_734 rfl (lv_at hl 0 rfl) ?_
  refine lv_bipush (v := 16) C.1 C.2.1 dX12_init_735 (by decide) ?_
  refine n_newa (atype := .byte) (n := 16) C w rfl (by unfold n_z; decide) (by simp) n_ac_byte (by decide) ⟨by simp [n_rm], by simp [n_rm]⟩ dX12_init_737 (fun H w => ?_)
  have w : n_W D b0 r 0 (117) 11 [.ref (r (118)), .ref (r (119)), .ref (r (120)), .ref (r (121)), .int 0, .int 0, .ref (r (122)), .ref (r (123)), .ref (r (124)), .ref (r (125)), .ref (r (126)), .ref (r (127)), .ref (r (128)), .ref (r (129)), .int 0, .ref (r (130)), .ref (r (131)), .ref (r (132)), .ref (r (133)), .ref (r (134)), .ref (r (135)), .ref (r (136)), .ref (r (137)), .ref (r (138)), .ref (r (139)), .ref (r (140)), .ref (r (141)), .ref (r (142)), .ref (r (143)), .ref (r (144)), .ref (r (145)), .ref (r (146)), .ref (r (147)), .ref (r (148)), .ref (r (149)), .ref (r (150)), .ref (r (151)), .ref (r (152)), .ref (r (153)), .ref (r (154)), .ref (r (155)), .null, .null, .null, .null, .null, .null, .null, .null, .null, .null, .null, .null, .null, .null, .null, .null, .null] (157) s H locs := w
  refine W.widen (k := 39) (n := 6436) (by omega) (by omega) ?_
  refine n_putF C w (v := (.ref (r (156)))) nlX12_198 (by decide) (by decide) (Nat.le_of_ble_eq_true rfl) rfl rfl dX12_init_739 (fun H locs w => ?_)
  have w : n_W D b0 r 0 (117) 11 [.ref (r (118)), .ref (r (119)), .ref (r (120)), .ref (r (121)), .int 0, .int 0, .ref (r (122)), .ref (r (123)), .ref (r (124)), .ref (r (125)), .ref (r (126)), .ref (r (127)), .ref (r (128)), .ref (r (129)), .int 0, .ref (r (130)), .ref (r (131)), .ref (r (132)), .ref (r (133)), .ref (r (134)), .ref (r (135)), .ref (r (136)), .ref (r (137)), .ref (r (138)), .ref (r (139)), .ref (r (140)), .ref (r (141)), .ref (r (142)), .ref (r (143)), .ref (r (144)), .ref (r (145)), .ref (r (146)), .ref (r (147)), .ref (r (148)), .ref (r (149)), .ref (r (150)), .ref (r (151)), .ref (r (152)), .ref (r (153)), .ref (r (154)), .ref (r (155)), .ref (r (156)), .null, .null, .null, .null, .null, .null, .null, .null, .null, .null, .null, .null, .null, .null, .null, .null] (157) s H locs := w
  refine lv_aload_n C.1 C.2.1 dX12_init_742 rfl (lv_at hl 0 rfl) ?_
  refine lv_sipush (v := 1408) C.1 C.2.1 dX12_init_743 (by decide) ?_
  refine n_newa (atype := .byte) (n := 1408) C w rfl (by unfold n_z; decide) (by simp) n_ac_byte (by decide) ⟨by simp [n_rm], by simp [n_rm]⟩ dX12_init_746 (fun H w => ?_)
  have w : n_W D b0 r 0 (117) 11 [.ref (r (118)), .ref (r (119)), .ref (r (120)), .ref (r (121)), .int 0, .int 0, .ref (r (122)), .ref (r (123)), .ref (r (124)), .ref (r (125)), .ref (r (126)), .ref (r (127)), .ref (r (128)), .ref (r (129)), .int 0, .ref (r (130)), .ref (r (131)), .ref (r (132)), .ref (r (133)), .ref (r (134)), .ref (r (135)), .ref (r (136)), .ref (r (137)), .ref (r (138)), .ref (r (139)), .ref (r (140)), .ref (r (141)), .ref (r (142)), .ref (r (143)), .ref (r (144)), .ref (r (145)), .ref (r (146)), .ref (r (147)), .ref (r (148)), .ref (r (149)), .ref (r (150)), .ref (r (151)), .ref (r (152)), .ref (r (153)), .ref (r (154)), .ref (r (155)), .ref (r (156)), .null, .null, .null, .null, .null, .null, .null, .null, .null, .null, .null, .null, .null, .null, .null, .null] (158) s H locs := w
  refine W.widen (k := 40) (n := 7844) (by omega) (by omega) ?_
  refine n_putF C w (v := (.ref (r (157)))) nlX12_201 (by decide) (by decide) (Nat.le_of_ble_eq_true rfl) rfl rfl dX12_init_748 (fun H locs w => ?_)
  have w : n_W D b0 r 0 (117) 11 [.ref (r (118)), .ref (r (119)), .ref (r (120)), .ref (r (121)), .int 0, .int 0, .ref (r (122)), .ref (r (123)), .ref (r (124)), .ref (r (125)), .ref (r (126)), .ref (r (127)), .ref (r (128)), .ref (r (129)), .int 0, .ref (r (130)), .ref (r (131)), .ref (r (132)), .ref (r (133)), .ref (r (134)), .ref (r (135)), .ref (r (136)), .ref (r (137)), .ref (r (138)), .ref (r (139)), .ref (r (140)), .ref (r (141)), .ref (r (142)), .ref (r (143)), .ref (r (144)), .ref (r (145)), .ref (r (146)), .ref (r (147)), .ref (r (148)), .ref (r (149)), .ref (r (150)), .ref (r (151)), .ref (r (152)), .ref (r (153)), .ref (r (154)), .ref (r (155)), .ref (r (156)), .ref (r (157)), .null, .null, .null, .null, .null, .null, .null, .null, .null, .null, .null, .null, .null, .null, .null] (158) s H locs := w
  refine lv_aload_n C.1 C.2.1 dX12_init_751 rfl (lv_at hl 0 rfl) ?_
  refine lv_sipush (v := 352) C.1 C.2.1 dX12_init_752 (by decide) ?_
  refine n_newa (atype := .byte) (n := 352) C w rfl (by unfold n_z; decide) (by simp) n_ac_byte (by decide) ⟨by simp [n_rm], by simp [n_rm]⟩ dX12_init_755 (fun H w => ?_)
  have w : n_W D b0 r 0 (117) 11 [.ref (r (118)), .ref (r (119)), .ref (r (120)), .ref (r (121)), .int 0, .int 0, .ref (r (122)), .ref (r (123)), .ref (r (124)), .ref (r (125)), .ref (r (126)), .ref (r (127)), .ref (r (128)), .ref (r (129)), .int 0, .ref (r (130)), .ref (r (131)), .ref (r (132)), .ref (r (133)), .ref (r (134)), .ref (r (135)), .ref (r (136)), .ref (r (137)), .ref (r (138)), .ref (r (139)), .ref (r (140)), .ref (r (141)), .ref (r (142)), .ref (r (143)), .ref (r (144)), .ref (r (145)), .ref (r (146)), .ref (r (147)), .ref (r (148)), .ref (r (149)), .ref (r (150)), .ref (r (151)), .ref (r (152)), .ref (r (153)), .ref (r (154)), .ref (r (155)), .ref (r (156)), .ref (r (157)), .null, .null, .null, .null, .null, .null, .null, .null, .null, .null, .null, .null, .null, .null, .null] (159) s H locs := w
  refine W.widen (k := 41) (n := 8196) (by omega) (by omega) ?_
  refine n_putF C w (v := (.ref (r (158)))) nlX12_204 (by decide) (by decide) (Nat.le_of_ble_eq_true rfl) rfl rfl dX12_init_757 (fun H locs w => ?_)
  have w : n_W D b0 r 0 (117) 11 [.ref (r (118)), .ref (r (119)), .ref (r (120)), .ref (r (121)), .int 0, .int 0, .ref (r (122)), .ref (r (123)), .ref (r (124)), .ref (r (125)), .ref (r (126)), .ref (r (127)), .ref (r (128)), .ref (r (129)), .int 0, .ref (r (130)), .ref (r (131)), .ref (r (132)), .ref (r (133)), .ref (r (134)), .ref (r (135)), .ref (r (136)), .ref (r (137)), .ref (r (138)), .ref (r (139)), .ref (r (140)), .ref (r (141)), .ref (r (142)), .ref (r (143)), .ref (r (144)), .ref (r (145)), .ref (r (146)), .ref (r (147)), .ref (r (148)), .ref (r (149)), .ref (r (150)), .ref (r (151)), .ref (r (152)), .ref (r (153)), .ref (r (154)), .ref (r (155)), .ref (r (156)), .ref (r (157)), .ref (r (158)), .null, .null, .null, .null, .null, .null, .null, .null, .null, .null, .null, .null, .null, .null] (159) s H locs := w
  refine lv_aload_n C.1 C.2.1 dX12_init_760 rfl (lv_at hl 0 rfl) ?_
  refine lv_iconst (v := 4) C.1 C.2.1 dX12_init_761 (by decide) ?_
  refine n_newa (atype := .boolean) (n := 4) C w rfl (by unfold n_z; decide) (by simp) n_ac_boolean (by decide) ⟨by simp [n_rm], by simp [n_rm]⟩ dX12_init_762 (fun H w => ?_)
  have w : n_W D b0 r 0 (117) 11 [.ref (r (118)), .ref (r (119)), .ref (r (120)), .ref (r (121)), .int 0, .int 0, .ref (r (122)), .ref (r (123)), .ref (r (124)), .ref (r (125)), .ref (r (126)), .ref (r (127)), .ref (r (128)), .ref (r (129)), .int 0, .ref (r (130)), .ref (r (131)), .ref (r (132)), .ref (r (133)), .ref (r (134)), .ref (r (135)), .ref (r (136)), .ref (r (137)), .ref (r (138)), .ref (r (139)), .ref (r (140)), .ref (r (141)), .ref (r (142)), .ref (r (143)), .ref (r (144)), .ref (r (145)), .ref (r (146)), .ref (r (147)), .ref (r (148)), .ref (r (149)), .ref (r (150)), .ref (r (151)), .ref (r (152)), .ref (r (153)), .ref (r (154)), .ref (r (155)), .ref (r (156)), .ref (r (157)), .ref (r (158)), .null, .null, .null, .null, .null, .null, .null, .null, .null, .null, .null, .null, .null, .null] (160) s H locs := w
  refine W.widen (k := 42) (n := 8200) (by omega) (by omega) ?_
  refine n_putF C w (v := (.ref (r (159)))) nlX12_207 (by decide) (by decide) (Nat.le_of_ble_eq_true rfl) rfl rfl dX12_init_764 (fun H locs w => ?_)
  have w : n_W D b0 r 0 (117) 11 [.ref (r (118)), .ref (r (119)), .ref (r (120)), .ref (r (121)), .int 0, .int 0, .ref (r (122)), .ref (r (123)), .ref (r (124)), .ref (r (125)), .ref (r (126)), .ref (r (127)), .ref (r (128)), .ref (r (129)), .int 0, .ref (r (130)), .ref (r (131)), .ref (r (132)), .ref (r (133)), .ref (r (134)), .ref (r (135)), .ref (r (136)), .ref (r (137)), .ref (r (138)), .ref (r (139)), .ref (r (140)), .ref (r (141)), .ref (r (142)), .ref (r (143)), .ref (r (144)), .ref (r (145)), .ref (r (146)), .ref (r (147)), .ref (r (148)), .ref (r (149)), .ref (r (150)), .ref (r (151)), .ref (r (152)), .ref (r (153)), .ref (r (154)), .ref (r (155)), .ref (r (156)), .ref (r (157)), .ref (r (158)), .ref (r (159)), .null, .null, .null, .null, .null, .null, .null, .null, .null, .null, .null, .null, .null] (160) s H locs := w
  refine lv_aload_n C.1 C.2.1 dX12_init_767 rfl (lv_at hl 0 rfl) ?_
  refine lv_iconst (v := 4) C.1 C.2.1 dX12_init_768 (by decide) ?_
  refine n_newa (atype := .boolean) (n := 4) C w rfl (by unfold n_z; decide) (by simp) n_ac_boolean (by decide) ⟨by simp [n_rm], by simp [n_rm]⟩ dX12_init_769 (fun H w => ?_)
  have w : n_W D b0 r 0 (117) 11 [.ref (r (118)), .ref (r (119)), .ref (r (120)), .ref (r (121)), .int 0, .int 0, .ref (r (122)), .ref (r (123)), .ref (r (124)), .ref (r (125)), .ref (r (126)), .ref (r (127)), .ref (r (128)), .ref (r (129)), .int 0, .ref (r (130)), .ref (r (131)), .ref (r (132)), .ref (r (133)), .ref (r (134)), .ref (r (135)), .ref (r (136)), .ref (r (137)), .ref (r (138)), .ref (r (139)), .ref (r (140)), .ref (r (141)), .ref (r (142)), .ref (r (143)), .ref (r (144)), .ref (r (145)), .ref (r (146)), .ref (r (147)), .ref (r (148)), .ref (r (149)), .ref (r (150)), .ref (r (151)), .ref (r (152)), .ref (r (153)), .ref (r (154)), .ref (r (155)), .ref (r (156)), .ref (r (157)), .ref (r (158)), .ref (r (159)), .null, .null, .null, .null, .null, .null, .null, .null, .null, .null, .null, .null, .null] (161) s H locs := w
  refine W.widen (k := 43) (n := 8204) (by omega) (by omega) ?_
  refine n_putF C w (v := (.ref (r (160)))) nlX12_211 (by decide) (by decide) (Nat.le_of_ble_eq_true rfl) rfl rfl dX12_init_771 (fun H locs w => ?_)
  have w : n_W D b0 r 0 (117) 11 [.ref (r (118)), .ref (r (119)), .ref (r (120)), .ref (r (121)), .int 0, .int 0, .ref (r (122)), .ref (r (123)), .ref (r (124)), .ref (r (125)), .ref (r (126)), .ref (r (127)), .ref (r (128)), .ref (r (129)), .int 0, .ref (r (130)), .ref (r (131)), .ref (r (132)), .ref (r (133)), .ref (r (134)), .ref (r (135)), .ref (r (136)), .ref (r (137)), .ref (r (138)), .ref (r (139)), .ref (r (140)), .ref (r (141)), .ref (r (142)), .ref (r (143)), .ref (r (144)), .ref (r (145)), .ref (r (146)), .ref (r (147)), .ref (r (148)), .ref (r (149)), .ref (r (150)), .ref (r (151)), .ref (r (152)), .ref (r (153)), .ref (r (154)), .ref (r (155)), .ref (r (156)), .ref (r (157)), .ref (r (158)), .ref (r (159)), .ref (r (160)), .null, .null, .null, .null, .null, .null, .null, .null, .null, .null, .null, .null] (161) s H locs := w
  refine lv_aload_n C.1 C.2.1 dX12_init_774 rfl (lv_at hl 0 rfl) ?_
  refine lv_iconst (v := 4) C.1 C.2.1 dX12_init_775 (by decide) ?_
  refine n_newa (atype := .boolean) (n := 4) C w rfl (by unfold n_z; decide) (by simp) n_ac_boolean (by decide) ⟨by simp [n_rm], by simp [n_rm]⟩ dX12_init_776 (fun H w => ?_)
  have w : n_W D b0 r 0 (117) 11 [.ref (r (118)), .ref (r (119)), .ref (r (120)), .ref (r (121)), .int 0, .int 0, .ref (r (122)), .ref (r (123)), .ref (r (124)), .ref (r (125)), .ref (r (126)), .ref (r (127)), .ref (r (128)), .ref (r (129)), .int 0, .ref (r (130)), .ref (r (131)), .ref (r (132)), .ref (r (133)), .ref (r (134)), .ref (r (135)), .ref (r (136)), .ref (r (137)), .ref (r (138)), .ref (r (139)), .ref (r (140)), .ref (r (141)), .ref (r (142)), .ref (r (143)), .ref (r (144)), .ref (r (145)), .ref (r (146)), .ref (r (147)), .ref (r (148)), .ref (r (149)), .ref (r (150)), .ref (r (151)), .ref (r (152)), .ref (r (153)), .ref (r (154)), .ref (r (155)), .ref (r (156)), .ref (r (157)), .ref (r (158)), .ref (r (159)), .ref (r (160)), .null, .null, .null, .null, .null, .null, .null, .null, .null, .null, .null, .null] (162) s H locs := w
  refine W.widen (k := 44) (n := 8208) (by omega) (by omega) ?_
  refine n_putF C w (v := (.ref (r (161)))) nlX12_214 (by decide) (by decide) (Nat.le_of_ble_eq_true rfl) rfl rfl dX12_init_778 (fun H locs w => ?_)
  have w : n_W D b0 r 0 (117) 11 [.ref (r (118)), .ref (r (119)), .ref (r (120)), .ref (r (121)), .int 0, .int 0, .ref (r (122)), .ref (r (123)), .ref (r (124)), .ref (r (125)), .ref (r (126)), .ref (r (127)), .ref (r (128)), .ref (r (129)), .int 0, .ref (r (130)), .ref (r (131)), .ref (r (132)), .ref (r (133)), .ref (r (134)), .ref (r (135)), .ref (r (136)), .ref (r (137)), .ref (r (138)), .ref (r (139)), .ref (r (140)), .ref (r (141)), .ref (r (142)), .ref (r (143)), .ref (r (144)), .ref (r (145)), .ref (r (146)), .ref (r (147)), .ref (r (148)), .ref (r (149)), .ref (r (150)), .ref (r (151)), .ref (r (152)), .ref (r (153)), .ref (r (154)), .ref (r (155)), .ref (r (156)), .ref (r (157)), .ref (r (158)), .ref (r (159)), .ref (r (160)), .ref (r (161)), .null, .null, .null, .null, .null, .null, .null, .null, .null, .null, .null] (162) s H locs := w
  refine lv_aload_n C.1 C.2.1 dX12_init_781 rfl (lv_at hl 0 rfl) ?_
  refine lv_iconst (v := 4) C.1 C.2.1 dX12_init_782 (by decide) ?_
  refine n_newa (atype := .boolean) (n := 4) C w rfl (by unfold n_z; decide) (by simp) n_ac_boolean (by decide) ⟨by simp [n_rm], by simp [n_rm]⟩ dX12_init_783 (fun H w => ?_)
  have w : n_W D b0 r 0 (117) 11 [.ref (r (118)), .ref (r (119)), .ref (r (120)), .ref (r (121)), .int 0, .int 0, .ref (r (122)), .ref (r (123)), .ref (r (124)), .ref (r (125)), .ref (r (126)), .ref (r (127)), .ref (r (128)), .ref (r (129)), .int 0, .ref (r (130)), .ref (r (131)), .ref (r (132)), .ref (r (133)), .ref (r (134)), .ref (r (135)), .ref (r (136)), .ref (r (137)), .ref (r (138)), .ref (r (139)), .ref (r (140)), .ref (r (141)), .ref (r (142)), .ref (r (143)), .ref (r (144)), .ref (r (145)), .ref (r (146)), .ref (r (147)), .ref (r (148)), .ref (r (149)), .ref (r (150)), .ref (r (151)), .ref (r (152)), .ref (r (153)), .ref (r (154)), .ref (r (155)), .ref (r (156)), .ref (r (157)), .ref (r (158)), .ref (r (159)), .ref (r (160)), .ref (r (161)), .null, .null, .null, .null, .null, .null, .null, .null, .null, .null, .null] (163) s H locs := w
  refine W.widen (k := 45) (n := 8212) (by omega) (by omega) ?_
  refine n_putF C w (v := (.ref (r (162)))) nlX12_217 (by decide) (by decide) (Nat.le_of_ble_eq_true rfl) rfl rfl dX12_init_785 (fun H locs w => ?_)
  have w : n_W D b0 r 0 (117) 11 [.ref (r (118)), .ref (r (119)), .ref (r (120)), .ref (r (121)), .int 0, .int 0, .ref (r (122)), .ref (r (123)), .ref (r (124)), .ref (r (125)), .ref (r (126)), .ref (r (127)), .ref (r (128)), .ref (r (129)), .int 0, .ref (r (130)), .ref (r (131)), .ref (r (132)), .ref (r (133)), .ref (r (134)), .ref (r (135)), .ref (r (136)), .ref (r (137)), .ref (r (138)), .ref (r (139)), .ref (r (140)), .ref (r (141)), .ref (r (142)), .ref (r (143)), .ref (r (144)), .ref (r (145)), .ref (r (146)), .ref (r (147)), .ref (r (148)), .ref (r (149)), .ref (r (150)), .ref (r (151)), .ref (r (152)), .ref (r (153)), .ref (r (154)), .ref (r (155)), .ref (r (156)), .ref (r (157)), .ref (r (158)), .ref (r (159)), .ref (r (160)), .ref (r (161)), .ref (r (162)), .null, .null, .null, .null, .null, .null, .null, .null, .null, .null] (163) s H locs := w
  refine lv_aload_n C.1 C.2.1 dX12_init_788 rfl (lv_at hl 0 rfl) ?_
  refine lv_iconst (v := 4) C.1 C.2.1 dX12_init_789 (by decide) ?_
  refine n_newa (atype := .boolean) (n := 4) C w rfl (by unfold n_z; decide) (by simp) n_ac_boolean (by decide) ⟨by simp [n_rm], by simp [n_rm]⟩ dX12_init_790 (fun H w => ?_)
  have w : n_W D b0 r 0 (117) 11 [.ref (r (118)), .ref (r (119)), .ref (r (120)), .ref (r (121)), .int 0, .int 0, .ref (r (122)), .ref (r (123)), .ref (r (124)), .ref (r (125)), .ref (r (126)), .ref (r (127)), .ref (r (128)), .ref (r (129)), .int 0, .ref (r (130)), .ref (r (131)), .ref (r (132)), .ref (r (133)), .ref (r (134)), .ref (r (135)), .ref (r (136)), .ref (r (137)), .ref (r (138)), .ref (r (139)), .ref (r (140)), .ref (r (141)), .ref (r (142)), .ref (r (143)), .ref (r (144)), .ref (r (145)), .ref (r (146)), .ref (r (147)), .ref (r (148)), .ref (r (149)), .ref (r (150)), .ref (r (151)), .ref (r (152)), .ref (r (153)), .ref (r (154)), .ref (r (155)), .ref (r (156)), .ref (r (157)), .ref (r (158)), .ref (r (159)), .ref (r (160)), .ref (r (161)), .ref (r (162)), .null, .null, .null, .null, .null, .null, .null, .null, .null, .null] (164) s H locs := w
  refine W.widen (k := 46) (n := 8216) (by omega) (by omega) ?_
  refine n_putF C w (v := (.ref (r (163)))) nlX12_220 (by decide) (by decide) (Nat.le_of_ble_eq_true rfl) rfl rfl dX12_init_792 (fun H locs w => ?_)
  have w : n_W D b0 r 0 (117) 11 [.ref (r (118)), .ref (r (119)), .ref (r (120)), .ref (r (121)), .int 0, .int 0, .ref (r (122)), .ref (r (123)), .ref (r (124)), .ref (r (125)), .ref (r (126)), .ref (r (127)), .ref (r (128)), .ref (r (129)), .int 0, .ref (r (130)), .ref (r (131)), .ref (r (132)), .ref (r (133)), .ref (r (134)), .ref (r (135)), .ref (r (136)), .ref (r (137)), .ref (r (138)), .ref (r (139)), .ref (r (140)), .ref (r (141)), .ref (r (142)), .ref (r (143)), .ref (r (144)), .ref (r (145)), .ref (r (146)), .ref (r (147)), .ref (r (148)), .ref (r (149)), .ref (r (150)), .ref (r (151)), .ref (r (152)), .ref (r (153)), .ref (r (154)), .ref (r (155)), .ref (r (156)), .ref (r (157)), .ref (r (158)), .ref (r (159)), .ref (r (160)), .ref (r (161)), .ref (r (162)), .ref (r (163)), .null, .null, .null, .null, .null, .null, .null, .null, .null] (164) s H locs := w
  refine lv_aload_n C.1 C.2.1 dX12_init_795 rfl (lv_at hl 0 rfl) ?_
  refine lv_iconst (v := 4) C.1 C.2.1 dX12_init_796 (by decide) ?_
  refine n_newa (atype := .int) (n := 4) C w rfl (by unfold n_z; decide) (by simp) n_ac_int (by decide) ⟨by simp [n_rm], by simp [n_rm]⟩ dX12_init_797 (fun H w => ?_)
  have w : n_W D b0 r 0 (117) 11 [.ref (r (118)), .ref (r (119)), .ref (r (120)), .ref (r (121)), .int 0, .int 0, .ref (r (122)), .ref (r (123)), .ref (r (124)), .ref (r (125)), .ref (r (126)), .ref (r (127)), .ref (r (128)), .ref (r (129)), .int 0, .ref (r (130)), .ref (r (131)), .ref (r (132)), .ref (r (133)), .ref (r (134)), .ref (r (135)), .ref (r (136)), .ref (r (137)), .ref (r (138)), .ref (r (139)), .ref (r (140)), .ref (r (141)), .ref (r (142)), .ref (r (143)), .ref (r (144)), .ref (r (145)), .ref (r (146)), .ref (r (147)), .ref (r (148)), .ref (r (149)), .ref (r (150)), .ref (r (151)), .ref (r (152)), .ref (r (153)), .ref (r (154)), .ref (r (155)), .ref (r (156)), .ref (r (157)), .ref (r (158)), .ref (r (159)), .ref (r (160)), .ref (r (161)), .ref (r (162)), .ref (r (163)), .null, .null, .null, .null, .null, .null, .null, .null, .null] (165) s H locs := w
  refine W.widen (k := 47) (n := 8220) (by omega) (by omega) ?_
  refine n_putF C w (v := (.ref (r (164)))) nlX12_223 (by decide) (by decide) (Nat.le_of_ble_eq_true rfl) rfl rfl dX12_init_799 (fun H locs w => ?_)
  have w : n_W D b0 r 0 (117) 11 [.ref (r (118)), .ref (r (119)), .ref (r (120)), .ref (r (121)), .int 0, .int 0, .ref (r (122)), .ref (r (123)), .ref (r (124)), .ref (r (125)), .ref (r (126)), .ref (r (127)), .ref (r (128)), .ref (r (129)), .int 0, .ref (r (130)), .ref (r (131)), .ref (r (132)), .ref (r (133)), .ref (r (134)), .ref (r (135)), .ref (r (136)), .ref (r (137)), .ref (r (138)), .ref (r (139)), .ref (r (140)), .ref (r (141)), .ref (r (142)), .ref (r (143)), .ref (r (144)), .ref (r (145)), .ref (r (146)), .ref (r (147)), .ref (r (148)), .ref (r (149)), .ref (r (150)), .ref (r (151)), .ref (r (152)), .ref (r (153)), .ref (r (154)), .ref (r (155)), .ref (r (156)), .ref (r (157)), .ref (r (158)), .ref (r (159)), .ref (r (160)), .ref (r (161)), .ref (r (162)), .ref (r (163)), .ref (r (164)), .null, .null, .null, .null, .null, .null, .null, .null] (165) s H locs := w
  refine lv_aload_n C.1 C.2.1 dX12_init_802 rfl (lv_at hl 0 rfl) ?_
  refine lv_iconst (v := 4) C.1 C.2.1 dX12_init_803 (by decide) ?_
  refine n_newa (atype := .int) (n := 4) C w rfl (by unfold n_z; decide) (by simp) n_ac_int (by decide) ⟨by simp [n_rm], by simp [n_rm]⟩ dX12_init_804 (fun H w => ?_)
  have w : n_W D b0 r 0 (117) 11 [.ref (r (118)), .ref (r (119)), .ref (r (120)), .ref (r (121)), .int 0, .int 0, .ref (r (122)), .ref (r (123)), .ref (r (124)), .ref (r (125)), .ref (r (126)), .ref (r (127)), .ref (r (128)), .ref (r (129)), .int 0, .ref (r (130)), .ref (r (131)), .ref (r (132)), .ref (r (133)), .ref (r (134)), .ref (r (135)), .ref (r (136)), .ref (r (137)), .ref (r (138)), .ref (r (139)), .ref (r (140)), .ref (r (141)), .ref (r (142)), .ref (r (143)), .ref (r (144)), .ref (r (145)), .ref (r (146)), .ref (r (147)), .ref (r (148)), .ref (r (149)), .ref (r (150)), .ref (r (151)), .ref (r (152)), .ref (r (153)), .ref (r (154)), .ref (r (155)), .ref (r (156)), .ref (r (157)), .ref (r (158)), .ref (r (159)), .ref (r (160)), .ref (r (161)), .ref (r (162)), .ref (r (163)), .ref (r (164)), .null, .null, .null, .null, .null, .null, .null, .null] (166) s H locs := w
  refine W.widen (k := 48) (n := 8224) (by omega) (by omega) ?_
  refine n_putF C w (v := (.ref (r (165)))) nlX12_226 (by decide) (by decide) (Nat.le_of_ble_eq_true rfl) rfl rfl dX12_init_806 (fun H locs w => ?_)
  have w : n_W D b0 r 0 (117) 11 [.ref (r (118)), .ref (r (119)), .ref (r (120)), .ref (r (121)), .int 0, .int 0, .ref (r (122)), .ref (r (123)), .ref (r (124)), .ref (r (125)), .ref (r (126)), .ref (r (127)), .ref (r (128)), .ref (r (129)), .int 0, .ref (r (130)), .ref (r (131)), .ref (r (132)), .ref (r (133)), .ref (r (134)), .ref (r (135)), .ref (r (136)), .ref (r (137)), .ref (r (138)), .ref (r (139)), .ref (r (140)), .ref (r (141)), .ref (r (142)), .ref (r (143)), .ref (r (144)), .ref (r (145)), .ref (r (146)), .ref (r (147)), .ref (r (148)), .ref (r (149)), .ref (r (150)), .ref (r (151)), .ref (r (152)), .ref (r (153)), .ref (r (154)), .ref (r (155)), .ref (r (156)), .ref (r (157)), .ref (r (158)), .ref (r (159)), .ref (r (160)), .ref (r (161)), .ref (r (162)), .ref (r (163)), .ref (r (164)), .ref (r (165)), .null, .null, .null, .null, .null, .null, .null] (166) s H locs := w
  refine lv_aload_n C.1 C.2.1 dX12_init_809 rfl (lv_at hl 0 rfl) ?_
  refine lv_iconst (v := 4) C.1 C.2.1 dX12_init_810 (by decide) ?_
  refine n_newa (atype := .long) (n := 4) C w rfl (by unfold n_z; decide) (by simp) n_ac_long (by decide) ⟨by simp [n_rm], by simp [n_rm]⟩ dX12_init_811 (fun H w => ?_)
  have w : n_W D b0 r 0 (117) 11 [.ref (r (118)), .ref (r (119)), .ref (r (120)), .ref (r (121)), .int 0, .int 0, .ref (r (122)), .ref (r (123)), .ref (r (124)), .ref (r (125)), .ref (r (126)), .ref (r (127)), .ref (r (128)), .ref (r (129)), .int 0, .ref (r (130)), .ref (r (131)), .ref (r (132)), .ref (r (133)), .ref (r (134)), .ref (r (135)), .ref (r (136)), .ref (r (137)), .ref (r (138)), .ref (r (139)), .ref (r (140)), .ref (r (141)), .ref (r (142)), .ref (r (143)), .ref (r (144)), .ref (r (145)), .ref (r (146)), .ref (r (147)), .ref (r (148)), .ref (r (149)), .ref (r (150)), .ref (r (151)), .ref (r (152)), .ref (r (153)), .ref (r (154)), .ref (r (155)), .ref (r (156)), .ref (r (157)), .ref (r (158)), .ref (r (159)), .ref (r (160)), .ref (r (161)), .ref (r (162)), .ref (r (163)), .ref (r (164)), .ref (r (165)), .null, .null, .null, .null, .null, .null, .null] (167) s H locs := w
  refine W.widen (k := 49) (n := 8228) (by omega) (by omega) ?_
  refine n_putF C w (v := (.ref (r (166)))) nlX12_229 (by decide) (by decide) (Nat.le_of_ble_eq_true rfl) rfl rfl dX12_init_813 (fun H locs w => ?_)
  have w : n_W D b0 r 0 (117) 11 [.ref (r (118)), .ref (r (119)), .ref (r (120)), .ref (r (121)), .int 0, .int 0, .ref (r (122)), .ref (r (123)), .ref (r (124)), .ref (r (125)), .ref (r (126)), .ref (r (127)), .ref (r (128)), .ref (r (129)), .int 0, .ref (r (130)), .ref (r (131)), .ref (r (132)), .ref (r (133)), .ref (r (134)), .ref (r (135)), .ref (r (136)), .ref (r (137)), .ref (r (138)), .ref (r (139)), .ref (r (140)), .ref (r (141)), .ref (r (142)), .ref (r (143)), .ref (r (144)), .ref (r (145)), .ref (r (146)), .ref (r (147)), .ref (r (148)), .ref (r (149)), .ref (r (150)), .ref (r (151)), .ref (r (152)), .ref (r (153)), .ref (r (154)), .ref (r (155)), .ref (r (156)), .ref (r (157)), .ref (r (158)), .ref (r (159)), .ref (r (160)), .ref (r (161)), .ref (r (162)), .ref (r (163)), .ref (r (164)), .ref (r (165)), .ref (r (166)), .null, .null, .null, .null, .null, .null] (167) s H locs := w
  refine lv_aload_n C.1 C.2.1 dX12_init_816 rfl (lv_at hl 0 rfl) ?_
  refine lv_iconst (v := 4) C.1 C.2.1 dX12_init_817 (by decide) ?_
  refine n_newa (atype := .long) (n := 4) C w rfl (by unfold n_z; decide) (by simp) n_ac_long (by decide) ⟨by simp [n_rm], by simp [n_rm]⟩ dX12_init_818 (fun H w => ?_)
  have w : n_W D b0 r 0 (117) 11 [.ref (r (118)), .ref (r (119)), .ref (r (120)), .ref (r (121)), .int 0, .int 0, .ref (r (122)), .ref (r (123)), .ref (r (124)), .ref (r (125)), .ref (r (126)), .ref (r (127)), .ref (r (128)), .ref (r (129)), .int 0, .ref (r (130)), .ref (r (131)), .ref (r (132)), .ref (r (133)), .ref (r (134)), .ref (r (135)), .ref (r (136)), .ref (r (137)), .ref (r (138)), .ref (r (139)), .ref (r (140)), .ref (r (141)), .ref (r (142)), .ref (r (143)), .ref (r (144)), .ref (r (145)), .ref (r (146)), .ref (r (147)), .ref (r (148)), .ref (r (149)), .ref (r (150)), .ref (r (151)), .ref (r (152)), .ref (r (153)), .ref (r (154)), .ref (r (155)), .ref (r (156)), .ref (r (157)), .ref (r (158)), .ref (r (159)), .ref (r (160)), .ref (r (161)), .ref (r (162)), .ref (r (163)), .ref (r (164)), .ref (r (165)), .ref (r (166)), .null, .null, .null, .null, .null, .null] (168) s H locs := w
  refine W.widen (k := 50) (n := 8232) (by omega) (by omega) ?_
  refine n_putF C w (v := (.ref (r (167)))) nlX12_232 (by decide) (by decide) (Nat.le_of_ble_eq_true rfl) rfl rfl dX12_init_820 (fun H locs w => ?_)
  have w : n_W D b0 r 0 (117) 11 [.ref (r (118)), .ref (r (119)), .ref (r (120)), .ref (r (121)), .int 0, .int 0, .ref (r (122)), .ref (r (123)), .ref (r (124)), .ref (r (125)), .ref (r (126)), .ref (r (127)), .ref (r (128)), .ref (r (129)), .int 0, .ref (r (130)), .ref (r (131)), .ref (r (132)), .ref (r (133)), .ref (r (134)), .ref (r (135)), .ref (r (136)), .ref (r (137)), .ref (r (138)), .ref (r (139)), .ref (r (140)), .ref (r (141)), .ref (r (142)), .ref (r (143)), .ref (r (144)), .ref (r (145)), .ref (r (146)), .ref (r (147)), .ref (r (148)), .ref (r (149)), .ref (r (150)), .ref (r (151)), .ref (r (152)), .ref (r (153)), .ref (r (154)), .ref (r (155)), .ref (r (156)), .ref (r (157)), .ref (r (158)), .ref (r (159)), .ref (r (160)), .ref (r (161)), .ref (r (162)), .ref (r (163)), .ref (r (164)), .ref (r (165)), .ref (r (166)), .ref (r (167)), .null, .null, .null, .null, .null] (168) s H locs := w
  refine lv_aload_n C.1 C.2.1 dX12_init_823 rfl (lv_at hl 0 rfl) ?_
  refine lv_iconst (v := 4) C.1 C.2.1 dX12_init_824 (by decide) ?_
  refine n_newa (atype := .long) (n := 4) C w rfl (by unfold n_z; decide) (by simp) n_ac_long (by decide) ⟨by simp [n_rm], by simp [n_rm]⟩ dX12_init_825 (fun H w => ?_)
  have w : n_W D b0 r 0 (117) 11 [.ref (r (118)), .ref (r (119)), .ref (r (120)), .ref (r (121)), .int 0, .int 0, .ref (r (122)), .ref (r (123)), .ref (r (124)), .ref (r (125)), .ref (r (126)), .ref (r (127)), .ref (r (128)), .ref (r (129)), .int 0, .ref (r (130)), .ref (r (131)), .ref (r (132)), .ref (r (133)), .ref (r (134)), .ref (r (135)), .ref (r (136)), .ref (r (137)), .ref (r (138)), .ref (r (139)), .ref (r (140)), .ref (r (141)), .ref (r (142)), .ref (r (143)), .ref (r (144)), .ref (r (145)), .ref (r (146)), .ref (r (147)), .ref (r (148)), .ref (r (149)), .ref (r (150)), .ref (r (151)), .ref (r (152)), .ref (r (153)), .ref (r (154)), .ref (r (155)), .ref (r (156)), .ref (r (157)), .ref (r (158)), .ref (r (159)), .ref (r (160)), .ref (r (161)), .ref (r (162)), .ref (r (163)), .ref (r (164)), .ref (r (165)), .ref (r (166)), .ref (r (167)), .null, .null, .null, .null, .null] (169) s H locs := w
  refine W.widen (k := 51) (n := 8236) (by omega) (by omega) ?_
  refine n_putF C w (v := (.ref (r (168)))) nlX12_235 (by decide) (by decide) (Nat.le_of_ble_eq_true rfl) rfl rfl dX12_init_827 (fun H locs w => ?_)
  have w : n_W D b0 r 0 (117) 11 [.ref (r (118)), .ref (r (119)), .ref (r (120)), .ref (r (121)), .int 0, .int 0, .ref (r (122)), .ref (r (123)), .ref (r (124)), .ref (r (125)), .ref (r (126)), .ref (r (127)), .ref (r (128)), .ref (r (129)), .int 0, .ref (r (130)), .ref (r (131)), .ref (r (132)), .ref (r (133)), .ref (r (134)), .ref (r (135)), .ref (r (136)), .ref (r (137)), .ref (r (138)), .ref (r (139)), .ref (r (140)), .ref (r (141)), .ref (r (142)), .ref (r (143)), .ref (r (144)), .ref (r (145)), .ref (r (146)), .ref (r (147)), .ref (r (148)), .ref (r (149)), .ref (r (150)), .ref (r (151)), .ref (r (152)), .ref (r (153)), .ref (r (154)), .ref (r (155)), .ref (r (156)), .ref (r (157)), .ref (r (158)), .ref (r (159)), .ref (r (160)), .ref (r (161)), .ref (r (162)), .ref (r (163)), .ref (r (164)), .ref (r (165)), .ref (r (166)), .ref (r (167)), .ref (r (168)), .null, .null, .null, .null] (169) s H locs := w
  refine lv_aload_n C.1 C.2.1 dX12_init_830 rfl (lv_at hl 0 rfl) ?_
  refine lv_bipush (v := 32) C.1 C.2.1 dX12_init_831 (by decide) ?_
  refine n_newa (atype := .byte) (n := 32) C w rfl (by unfold n_z; decide) (by simp) n_ac_byte (by decide) ⟨by simp [n_rm], by simp [n_rm]⟩ dX12_init_833 (fun H w => ?_)
  have w : n_W D b0 r 0 (117) 11 [.ref (r (118)), .ref (r (119)), .ref (r (120)), .ref (r (121)), .int 0, .int 0, .ref (r (122)), .ref (r (123)), .ref (r (124)), .ref (r (125)), .ref (r (126)), .ref (r (127)), .ref (r (128)), .ref (r (129)), .int 0, .ref (r (130)), .ref (r (131)), .ref (r (132)), .ref (r (133)), .ref (r (134)), .ref (r (135)), .ref (r (136)), .ref (r (137)), .ref (r (138)), .ref (r (139)), .ref (r (140)), .ref (r (141)), .ref (r (142)), .ref (r (143)), .ref (r (144)), .ref (r (145)), .ref (r (146)), .ref (r (147)), .ref (r (148)), .ref (r (149)), .ref (r (150)), .ref (r (151)), .ref (r (152)), .ref (r (153)), .ref (r (154)), .ref (r (155)), .ref (r (156)), .ref (r (157)), .ref (r (158)), .ref (r (159)), .ref (r (160)), .ref (r (161)), .ref (r (162)), .ref (r (163)), .ref (r (164)), .ref (r (165)), .ref (r (166)), .ref (r (167)), .ref (r (168)), .null, .null, .null, .null] (170) s H locs := w
  refine W.widen (k := 52) (n := 8268) (by omega) (by omega) ?_
  refine n_putF C w (v := (.ref (r (169)))) nlX12_238 (by decide) (by decide) (Nat.le_of_ble_eq_true rfl) rfl rfl dX12_init_835 (fun H locs w => ?_)
  have w : n_W D b0 r 0 (117) 11 [.ref (r (118)), .ref (r (119)), .ref (r (120)), .ref (r (121)), .int 0, .int 0, .ref (r (122)), .ref (r (123)), .ref (r (124)), .ref (r (125)), .ref (r (126)), .ref (r (127)), .ref (r (128)), .ref (r (129)), .int 0, .ref (r (130)), .ref (r (131)), .ref (r (132)), .ref (r (133)), .ref (r (134)), .ref (r (135)), .ref (r (136)), .ref (r (137)), .ref (r (138)), .ref (r (139)), .ref (r (140)), .ref (r (141)), .ref (r (142)), .ref (r (143)), .ref (r (144)), .ref (r (145)), .ref (r (146)), .ref (r (147)), .ref (r (148)), .ref (r (149)), .ref (r (150)), .ref (r (151)), .ref (r (152)), .ref (r (153)), .ref (r (154)), .ref (r (155)), .ref (r (156)), .ref (r (157)), .ref (r (158)), .ref (r (159)), .ref (r (160)), .ref (r (161)), .ref (r (162)), .ref (r (163)), .ref (r (164)), .ref (r (165)), .ref (r (166)), .ref (r (167)), .ref (r (168)), .ref (r (169)), .null, .null, .null] (170) s H locs := w
  refine lv_aload_n C.1 C.2.1 dX12_init_838 rfl (lv_at hl 0 rfl) ?_
  refine lv_bipush (v := 33) C.1 C.2.1 dX12_init_839 (by decide) ?_
  refine n_newa (atype := .byte) (n := 33) C w rfl (by unfold n_z; decide) (by simp) n_ac_byte (by decide) ⟨by simp [n_rm], by simp [n_rm]⟩ dX12_init_841 (fun H w => ?_)
  have w : n_W D b0 r 0 (117) 11 [.ref (r (118)), .ref (r (119)), .ref (r (120)), .ref (r (121)), .int 0, .int 0, .ref (r (122)), .ref (r (123)), .ref (r (124)), .ref (r (125)), .ref (r (126)), .ref (r (127)), .ref (r (128)), .ref (r (129)), .int 0, .ref (r (130)), .ref (r (131)), .ref (r (132)), .ref (r (133)), .ref (r (134)), .ref (r (135)), .ref (r (136)), .ref (r (137)), .ref (r (138)), .ref (r (139)), .ref (r (140)), .ref (r (141)), .ref (r (142)), .ref (r (143)), .ref (r (144)), .ref (r (145)), .ref (r (146)), .ref (r (147)), .ref (r (148)), .ref (r (149)), .ref (r (150)), .ref (r (151)), .ref (r (152)), .ref (r (153)), .ref (r (154)), .ref (r (155)), .ref (r (156)), .ref (r (157)), .ref (r (158)), .ref (r (159)), .ref (r (160)), .ref (r (161)), .ref (r (162)), .ref (r (163)), .ref (r (164)), .ref (r (165)), .ref (r (166)), .ref (r (167)), .ref (r (168)), .ref (r (169)), .null, .null, .null] (171) s H locs := w
  refine W.widen (k := 53) (n := 8301) (by omega) (by omega) ?_
  refine n_putF C w (v := (.ref (r (170)))) nlX12_241 (by decide) (by decide) (Nat.le_of_ble_eq_true rfl) rfl rfl dX12_init_843 (fun H locs w => ?_)
  have w : n_W D b0 r 0 (117) 11 [.ref (r (118)), .ref (r (119)), .ref (r (120)), .ref (r (121)), .int 0, .int 0, .ref (r (122)), .ref (r (123)), .ref (r (124)), .ref (r (125)), .ref (r (126)), .ref (r (127)), .ref (r (128)), .ref (r (129)), .int 0, .ref (r (130)), .ref (r (131)), .ref (r (132)), .ref (r (133)), .ref (r (134)), .ref (r (135)), .ref (r (136)), .ref (r (137)), .ref (r (138)), .ref (r (139)), .ref (r (140)), .ref (r (141)), .ref (r (142)), .ref (r (143)), .ref (r (144)), .ref (r (145)), .ref (r (146)), .ref (r (147)), .ref (r (148)), .ref (r (149)), .ref (r (150)), .ref (r (151)), .ref (r (152)), .ref (r (153)), .ref (r (154)), .ref (r (155)), .ref (r (156)), .ref (r (157)), .ref (r (158)), .ref (r (159)), .ref (r (160)), .ref (r (161)), .ref (r (162)), .ref (r (163)), .ref (r (164)), .ref (r (165)), .ref (r (166)), .ref (r (167)), .ref (r (168)), .ref (r (169)), .ref (r (170)), .null, .null] (171) s H locs := w
  refine lv_aload_n C.1 C.2.1 dX12_init_846 rfl (lv_at hl 0 rfl) ?_
  refine lv_bipush (v := 32) C.1 C.2.1 dX12_init_847 (by decide) ?_
  refine n_newa (atype := .byte) (n := 32) C w rfl (by unfold n_z; decide) (by simp) n_ac_byte (by decide) ⟨by simp [n_rm], by simp [n_rm]⟩ dX12_init_849 (fun H w => ?_)
  have w : n_W D b0 r 0 (117) 11 [.ref (r (118)), .ref (r (119)), .ref (r (120)), .ref (r (121)), .int 0, .int 0, .ref (r (122)), .ref (r (123)), .ref (r (124)), .ref (r (125)), .ref (r (126)), .ref (r (127)), .ref (r (128)), .ref (r (129)), .int 0, .ref (r (130)), .ref (r (131)), .ref (r (132)), .ref (r (133)), .ref (r (134)), .ref (r (135)), .ref (r (136)), .ref (r (137)), .ref (r (138)), .ref (r (139)), .ref (r (140)), .ref (r (141)), .ref (r (142)), .ref (r (143)), .ref (r (144)), .ref (r (145)), .ref (r (146)), .ref (r (147)), .ref (r (148)), .ref (r (149)), .ref (r (150)), .ref (r (151)), .ref (r (152)), .ref (r (153)), .ref (r (154)), .ref (r (155)), .ref (r (156)), .ref (r (157)), .ref (r (158)), .ref (r (159)), .ref (r (160)), .ref (r (161)), .ref (r (162)), .ref (r (163)), .ref (r (164)), .ref (r (165)), .ref (r (166)), .ref (r (167)), .ref (r (168)), .ref (r (169)), .ref (r (170)), .null, .null] (172) s H locs := w
  refine W.widen (k := 54) (n := 8333) (by omega) (by omega) ?_
  refine n_putF C w (v := (.ref (r (171)))) nlX12_244 (by decide) (by decide) (Nat.le_of_ble_eq_true rfl) rfl rfl dX12_init_851 (fun H locs w => ?_)
  have w : n_W D b0 r 0 (117) 11 [.ref (r (118)), .ref (r (119)), .ref (r (120)), .ref (r (121)), .int 0, .int 0, .ref (r (122)), .ref (r (123)), .ref (r (124)), .ref (r (125)), .ref (r (126)), .ref (r (127)), .ref (r (128)), .ref (r (129)), .int 0, .ref (r (130)), .ref (r (131)), .ref (r (132)), .ref (r (133)), .ref (r (134)), .ref (r (135)), .ref (r (136)), .ref (r (137)), .ref (r (138)), .ref (r (139)), .ref (r (140)), .ref (r (141)), .ref (r (142)), .ref (r (143)), .ref (r (144)), .ref (r (145)), .ref (r (146)), .ref (r (147)), .ref (r (148)), .ref (r (149)), .ref (r (150)), .ref (r (151)), .ref (r (152)), .ref (r (153)), .ref (r (154)), .ref (r (155)), .ref (r (156)), .ref (r (157)), .ref (r (158)), .ref (r (159)), .ref (r (160)), .ref (r (161)), .ref (r (162)), .ref (r (163)), .ref (r (164)), .ref (r (165)), .ref (r (166)), .ref (r (167)), .ref (r (168)), .ref (r (169)), .ref (r (170)), .ref (r (171)), .null] (172) s H locs := w
  refine lv_aload_n C.1 C.2.1 dX12_init_854 rfl (lv_at hl 0 rfl) ?_
  refine lv_iconst (v := 1) C.1 C.2.1 dX12_init_855 (by decide) ?_
  refine n_newa (atype := .byte) (n := 1) C w rfl (by unfold n_z; decide) (by simp) n_ac_byte (by decide) ⟨by simp [n_rm], by simp [n_rm]⟩ dX12_init_856 (fun H w => ?_)
  have w : n_W D b0 r 0 (117) 11 [.ref (r (118)), .ref (r (119)), .ref (r (120)), .ref (r (121)), .int 0, .int 0, .ref (r (122)), .ref (r (123)), .ref (r (124)), .ref (r (125)), .ref (r (126)), .ref (r (127)), .ref (r (128)), .ref (r (129)), .int 0, .ref (r (130)), .ref (r (131)), .ref (r (132)), .ref (r (133)), .ref (r (134)), .ref (r (135)), .ref (r (136)), .ref (r (137)), .ref (r (138)), .ref (r (139)), .ref (r (140)), .ref (r (141)), .ref (r (142)), .ref (r (143)), .ref (r (144)), .ref (r (145)), .ref (r (146)), .ref (r (147)), .ref (r (148)), .ref (r (149)), .ref (r (150)), .ref (r (151)), .ref (r (152)), .ref (r (153)), .ref (r (154)), .ref (r (155)), .ref (r (156)), .ref (r (157)), .ref (r (158)), .ref (r (159)), .ref (r (160)), .ref (r (161)), .ref (r (162)), .ref (r (163)), .ref (r (164)), .ref (r (165)), .ref (r (166)), .ref (r (167)), .ref (r (168)), .ref (r (169)), .ref (r (170)), .ref (r (171)), .null] (173) s H locs := w
  refine W.widen (k := 55) (n := 8334) (by omega) (by omega) ?_
  refine n_putF C w (v := (.ref (r (172)))) nlX12_247 (by decide) (by decide) (Nat.le_of_ble_eq_true rfl) rfl rfl dX12_init_858 (fun H locs w => ?_)
  have w : n_W D b0 r 0 (117) 11 [.ref (r (118)), .ref (r (119)), .ref (r (120)), .ref (r (121)), .int 0, .int 0, .ref (r (122)), .ref (r (123)), .ref (r (124)), .ref (r (125)), .ref (r (126)), .ref (r (127)), .ref (r (128)), .ref (r (129)), .int 0, .ref (r (130)), .ref (r (131)), .ref (r (132)), .ref (r (133)), .ref (r (134)), .ref (r (135)), .ref (r (136)), .ref (r (137)), .ref (r (138)), .ref (r (139)), .ref (r (140)), .ref (r (141)), .ref (r (142)), .ref (r (143)), .ref (r (144)), .ref (r (145)), .ref (r (146)), .ref (r (147)), .ref (r (148)), .ref (r (149)), .ref (r (150)), .ref (r (151)), .ref (r (152)), .ref (r (153)), .ref (r (154)), .ref (r (155)), .ref (r (156)), .ref (r (157)), .ref (r (158)), .ref (r (159)), .ref (r (160)), .ref (r (161)), .ref (r (162)), .ref (r (163)), .ref (r (164)), .ref (r (165)), .ref (r (166)), .ref (r (167)), .ref (r (168)), .ref (r (169)), .ref (r (170)), .ref (r (171)), .ref (r (172))] (173) s H locs := w
  exact n_ret (n := 55) (ms := 8334) C w rfl rfl (fun j hj => match j, hj with | 0, _ => rfl | 1, _ => rfl | 2, _ => rfl | 3, _ => rfl | 4, _ => rfl | 5, _ => rfl | 6, _ => rfl | 7, _ => rfl | 8, _ => rfl | 9, _ => rfl | 10, _ => rfl | 11, _ => rfl | 12, _ => rfl | 13, _ => rfl | 14, _ => rfl | 15, _ => rfl | 16, _ => rfl | 17, _ => rfl | 18, _ => rfl | 19, _ => rfl | 20, _ => rfl | 21, _ => rfl | 22, _ => rfl | 23, _ => rfl | 24, _ => rfl | 25, _ => rfl | 26, _ => rfl | 27, _ => rfl | 28, _ => rfl | 29, _ => rfl | 30, _ => rfl | 31, _ => rfl | 32, _ => rfl | 33, _ => rfl | 34, _ => rfl | 35, _ => rfl | 36, _ => rfl | 37, _ => rfl | 38, _ => rfl | 39, _ => rfl | 40, _ => rfl | 41, _ => rfl | 42, _ => rfl | 43, _ => rfl | 44, _ => rfl | 45, _ => rfl | 46, _ => rfl | 47, _ => rfl | 48, _ => rfl | 49, _ => rfl | 50, _ => rfl | 51, _ => rfl | 52, _ => rfl | 53, _ => rfl | 54, _ => rfl | 55, _ => rfl | 56, _ => rfl | 57, _ => rfl | k + 58, h => absurd (show k + 58 < 58 from h) (by omega)) ⟨fun q => absurd q (by decide), fun q => absurd q (by decide)⟩ rfl (by decide) (by decide) (by decide) dX12_init_861

set_option maxHeartbeats 4000000 in
set_option maxRecDepth 100000 in
theorem k_X2_init (l : Launch) (D : va_G) (b0 : Nat) (r : Nat → Nat) (hr : ∀ k, k < 173 → r k = b0 + k) : n_M l yX2_init cX2_init 1 1 12 3 96 D b0 r [.ref (r (32))] (32) 1 (fun _ => True) := by
  refine n_enter hr (by decide) rfl (Nat.le_of_ble_eq_true rfl) ?_
  intro p e s m args below meth c C w hsz hpre ls hl
  have C : n_C p c cX2_init 1 RX2 m meth s args D b0 r := C
  have hl : lv_has ls 1 [(0, .ref (r (32)))] := hl
  refine lv_aload_n C.1 C.2.1 dX2_init_0 rfl (lv_at hl 0 rfl) ?_
  refine n_init C hl (in_r4 _ (List.mem_of_getElem? (i := 23) rfl)) n_oi1 n_oi2 ⟨by decide, by decide⟩ dX2_init_1 ?_
  refine lv_aload_n C.1 C.2.1 dX2_init_4 rfl (lv_at hl 0 rfl) ?_
  refine lv_bipush (v := 64) C.1 C.2.1 dX2_init_5 (by decide) ?_
  refine n_newa (atype := .byte) (n := 64) C w rfl (by unfold n_z; decide) (by simp) n_ac_byte (by decide) ⟨by simp [n_rm], by simp [n_rm]⟩ dX2_init_7 (fun H w => ?_)
  have w : n_W D b0 r 0 (32) 1 [.null, .null, .null] (34) s H [] := w
  refine W.widen (k := 1) (n := 64) (by omega) (by omega) ?_
  refine n_putF C w (v := (.ref (r (33)))) nlX2_9 (by decide) (by decide) (Nat.le_of_ble_eq_true rfl) rfl rfl dX2_init_9 (fun H locs w => ?_)
  have w : n_W D b0 r 0 (32) 1 [.ref (r (33)), .null, .null] (34) s H locs := w
  refine lv_aload_n C.1 C.2.1 dX2_init_12 rfl (lv_at hl 0 rfl) ?_
  refine lv_bipush (v := 16) C.1 C.2.1 dX2_init_13 (by decide) ?_
  refine n_newa (atype := .int) (n := 16) C w rfl (by unfold n_z; decide) (by simp) n_ac_int (by decide) ⟨by simp [n_rm], by simp [n_rm]⟩ dX2_init_15 (fun H w => ?_)
  have w : n_W D b0 r 0 (32) 1 [.ref (r (33)), .null, .null] (35) s H locs := w
  refine W.widen (k := 2) (n := 80) (by omega) (by omega) ?_
  refine n_putF C w (v := (.ref (r (34)))) nlX2_13 (by decide) (by decide) (Nat.le_of_ble_eq_true rfl) rfl rfl dX2_init_17 (fun H locs w => ?_)
  have w : n_W D b0 r 0 (32) 1 [.ref (r (33)), .ref (r (34)), .null] (35) s H locs := w
  refine lv_aload_n C.1 C.2.1 dX2_init_20 rfl (lv_at hl 0 rfl) ?_
  refine lv_bipush (v := 16) C.1 C.2.1 dX2_init_21 (by decide) ?_
  refine n_newa (atype := .int) (n := 16) C w rfl (by unfold n_z; decide) (by simp) n_ac_int (by decide) ⟨by simp [n_rm], by simp [n_rm]⟩ dX2_init_23 (fun H w => ?_)
  have w : n_W D b0 r 0 (32) 1 [.ref (r (33)), .ref (r (34)), .null] (36) s H locs := w
  refine W.widen (k := 3) (n := 96) (by omega) (by omega) ?_
  refine n_putF C w (v := (.ref (r (35)))) nlX2_17 (by decide) (by decide) (Nat.le_of_ble_eq_true rfl) rfl rfl dX2_init_25 (fun H locs w => ?_)
  have w : n_W D b0 r 0 (32) 1 [.ref (r (33)), .ref (r (34)), .ref (r (35))] (36) s H locs := w
  exact n_ret (n := 3) (ms := 96) C w rfl rfl (fun j hj => match j, hj with | 0, _ => rfl | 1, _ => rfl | 2, _ => rfl | k + 3, h => absurd (show k + 3 < 3 from h) (by omega)) ⟨fun q => absurd q (by decide), fun q => absurd q (by decide)⟩ rfl (by decide) (by decide) (by decide) dX2_init_28
set_option maxHeartbeats 4000000 in
set_option maxRecDepth 100000 in
theorem k_X4_init (l : Launch) (D : va_G) (b0 : Nat) (r : Nat → Nat) (hr : ∀ k, k < 173 → r k = b0 + k) : n_M l yX4_init cX4_init 1 1 12 9 134 D b0 r [.ref (r (13))] (13) 3 (fun _ => True) := by
  refine n_enter hr (by decide) rfl (Nat.le_of_ble_eq_true rfl) ?_
  intro p e s m args below meth c C w hsz hpre ls hl
  have C : n_C p c cX4_init 1 RX4 m meth s args D b0 r := C
  have hl : lv_has ls 1 [(0, .ref (r (13)))] := hl
  refine lv_aload_n C.1 C.2.1 dX4_init_0 rfl (lv_at hl 0 rfl) ?_
  refine n_init C hl (in_r3 _ (List.mem_of_getElem? (i := 4) rfl)) n_oi1 n_oi2 ⟨by decide, by decide⟩ dX4_init_1 ?_
  refine lv_aload_n C.1 C.2.1 dX4_init_4 rfl (lv_at hl 0 rfl) ?_
  refine lv_bipush (v := 32) C.1 C.2.1 dX4_init_5 (by decide) ?_
  refine n_newa (atype := .byte) (n := 32) C w rfl (by unfold n_z; decide) (by simp) n_ac_byte (by decide) ⟨by simp [n_rm], by simp [n_rm]⟩ dX4_init_7 (fun H w => ?_)
  have w : n_W D b0 r 0 (13) 3 [.null, .null, .null, .null, .null, .null, .null, .null, .null] (15) s H [] := w
  refine W.widen (k := 1) (n := 32) (by omega) (by omega) ?_
  refine n_putF C w (v := (.ref (r (14)))) nlX4_9 (by decide) (by decide) (Nat.le_of_ble_eq_true rfl) rfl rfl dX4_init_9 (fun H locs w => ?_)
  have w : n_W D b0 r 0 (13) 3 [.ref (r (14)), .null, .null, .null, .null, .null, .null, .null, .null] (15) s H locs := w
  refine lv_aload_n C.1 C.2.1 dX4_init_12 rfl (lv_at hl 0 rfl) ?_
  refine lv_bipush (v := 32) C.1 C.2.1 dX4_init_13 (by decide) ?_
  refine n_newa (atype := .byte) (n := 32) C w rfl (by unfold n_z; decide) (by simp) n_ac_byte (by decide) ⟨by simp [n_rm], by simp [n_rm]⟩ dX4_init_15 (fun H w => ?_)
  have w : n_W D b0 r 0 (13) 3 [.ref (r (14)), .null, .null, .null, .null, .null, .null, .null, .null] (16) s H locs := w
  refine W.widen (k := 2) (n := 64) (by omega) (by omega) ?_
  refine n_putF C w (v := (.ref (r (15)))) nlX4_15 (by decide) (by decide) (Nat.le_of_ble_eq_true rfl) rfl rfl dX4_init_17 (fun H locs w => ?_)
  have w : n_W D b0 r 0 (13) 3 [.ref (r (14)), .ref (r (15)), .null, .null, .null, .null, .null, .null, .null] (16) s H locs := w
  refine lv_aload_n C.1 C.2.1 dX4_init_20 rfl (lv_at hl 0 rfl) ?_
  refine lv_bipush (v := 10) C.1 C.2.1 dX4_init_21 (by decide) ?_
  refine n_newa (atype := .long) (n := 10) C w rfl (by unfold n_z; decide) (by simp) n_ac_long (by decide) ⟨by simp [n_rm], by simp [n_rm]⟩ dX4_init_23 (fun H w => ?_)
  have w : n_W D b0 r 0 (13) 3 [.ref (r (14)), .ref (r (15)), .null, .null, .null, .null, .null, .null, .null] (17) s H locs := w
  refine W.widen (k := 3) (n := 74) (by omega) (by omega) ?_
  refine n_putF C w (v := (.ref (r (16)))) nlX4_18 (by decide) (by decide) (Nat.le_of_ble_eq_true rfl) rfl rfl dX4_init_25 (fun H locs w => ?_)
  have w : n_W D b0 r 0 (13) 3 [.ref (r (14)), .ref (r (15)), .ref (r (16)), .null, .null, .null, .null, .null, .null] (17) s H locs := w
  refine lv_aload_n C.1 C.2.1 dX4_init_28 rfl (lv_at hl 0 rfl) ?_
  refine lv_bipush (v := 10) C.1 C.2.1 dX4_init_29 (by decide) ?_
  refine n_newa (atype := .long) (n := 10) C w rfl (by unfold n_z; decide) (by simp) n_ac_long (by decide) ⟨by simp [n_rm], by simp [n_rm]⟩ dX4_init_31 (fun H w => ?_)
  have w : n_W D b0 r 0 (13) 3 [.ref (r (14)), .ref (r (15)), .ref (r (16)), .null, .null, .null, .null, .null, .null] (18) s H locs := w
  refine W.widen (k := 4) (n := 84) (by omega) (by omega) ?_
  refine n_putF C w (v := (.ref (r (17)))) nlX4_22 (by decide) (by decide) (Nat.le_of_ble_eq_true rfl) rfl rfl dX4_init_33 (fun H locs w => ?_)
  have w : n_W D b0 r 0 (13) 3 [.ref (r (14)), .ref (r (15)), .ref (r (16)), .ref (r (17)), .null, .null, .null, .null, .null] (18) s H locs := w
  refine lv_aload_n C.1 C.2.1 dX4_init_36 rfl (lv_at hl 0 rfl) ?_
  refine lv_bipush (v := 10) C.1 C.2.1 dX4_init_37 (by decide) ?_
  refine n_newa (atype := .long) (n := 10) C w rfl (by unfold n_z; decide) (by simp) n_ac_long (by decide) ⟨by simp [n_rm], by simp [n_rm]⟩ dX4_init_39 (fun H w => ?_)
  have w : n_W D b0 r 0 (13) 3 [.ref (r (14)), .ref (r (15)), .ref (r (16)), .ref (r (17)), .null, .null, .null, .null, .null] (19) s H locs := w
  refine W.widen (k := 5) (n := 94) (by omega) (by omega) ?_
  refine n_putF C w (v := (.ref (r (18)))) nlX4_25 (by decide) (by decide) (Nat.le_of_ble_eq_true rfl) rfl rfl dX4_init_41 (fun H locs w => ?_)
  have w : n_W D b0 r 0 (13) 3 [.ref (r (14)), .ref (r (15)), .ref (r (16)), .ref (r (17)), .ref (r (18)), .null, .null, .null, .null] (19) s H locs := w
  refine lv_aload_n C.1 C.2.1 dX4_init_44 rfl (lv_at hl 0 rfl) ?_
  refine lv_bipush (v := 10) C.1 C.2.1 dX4_init_45 (by decide) ?_
  refine n_newa (atype := .long) (n := 10) C w rfl (by unfold n_z; decide) (by simp) n_ac_long (by decide) ⟨by simp [n_rm], by simp [n_rm]⟩ dX4_init_47 (fun H w => ?_)
  have w : n_W D b0 r 0 (13) 3 [.ref (r (14)), .ref (r (15)), .ref (r (16)), .ref (r (17)), .ref (r (18)), .null, .null, .null, .null] (20) s H locs := w
  refine W.widen (k := 6) (n := 104) (by omega) (by omega) ?_
  refine n_putF C w (v := (.ref (r (19)))) nlX4_28 (by decide) (by decide) (Nat.le_of_ble_eq_true rfl) rfl rfl dX4_init_49 (fun H locs w => ?_)
  have w : n_W D b0 r 0 (13) 3 [.ref (r (14)), .ref (r (15)), .ref (r (16)), .ref (r (17)), .ref (r (18)), .ref (r (19)), .null, .null, .null] (20) s H locs := w
  refine lv_aload_n C.1 C.2.1 dX4_init_52 rfl (lv_at hl 0 rfl) ?_
  refine lv_bipush (v := 10) C.1 C.2.1 dX4_init_53 (by decide) ?_
  refine n_newa (atype := .long) (n := 10) C w rfl (by unfold n_z; decide) (by simp) n_ac_long (by decide) ⟨by simp [n_rm], by simp [n_rm]⟩ dX4_init_55 (fun H w => ?_)
  have w : n_W D b0 r 0 (13) 3 [.ref (r (14)), .ref (r (15)), .ref (r (16)), .ref (r (17)), .ref (r (18)), .ref (r (19)), .null, .null, .null] (21) s H locs := w
  refine W.widen (k := 7) (n := 114) (by omega) (by omega) ?_
  refine n_putF C w (v := (.ref (r (20)))) nlX4_31 (by decide) (by decide) (Nat.le_of_ble_eq_true rfl) rfl rfl dX4_init_57 (fun H locs w => ?_)
  have w : n_W D b0 r 0 (13) 3 [.ref (r (14)), .ref (r (15)), .ref (r (16)), .ref (r (17)), .ref (r (18)), .ref (r (19)), .ref (r (20)), .null, .null] (21) s H locs := w
  refine lv_aload_n C.1 C.2.1 dX4_init_60 rfl (lv_at hl 0 rfl) ?_
  refine lv_bipush (v := 10) C.1 C.2.1 dX4_init_61 (by decide) ?_
  refine n_newa (atype := .long) (n := 10) C w rfl (by unfold n_z; decide) (by simp) n_ac_long (by decide) ⟨by simp [n_rm], by simp [n_rm]⟩ dX4_init_63 (fun H w => ?_)
  have w : n_W D b0 r 0 (13) 3 [.ref (r (14)), .ref (r (15)), .ref (r (16)), .ref (r (17)), .ref (r (18)), .ref (r (19)), .ref (r (20)), .null, .null] (22) s H locs := w
  refine W.widen (k := 8) (n := 124) (by omega) (by omega) ?_
  refine n_putF C w (v := (.ref (r (21)))) nlX4_34 (by decide) (by decide) (Nat.le_of_ble_eq_true rfl) rfl rfl dX4_init_65 (fun H locs w => ?_)
  have w : n_W D b0 r 0 (13) 3 [.ref (r (14)), .ref (r (15)), .ref (r (16)), .ref (r (17)), .ref (r (18)), .ref (r (19)), .ref (r (20)), .ref (r (21)), .null] (22) s H locs := w
  refine lv_aload_n C.1 C.2.1 dX4_init_68 rfl (lv_at hl 0 rfl) ?_
  refine lv_bipush (v := 10) C.1 C.2.1 dX4_init_69 (by decide) ?_
  refine n_newa (atype := .long) (n := 10) C w rfl (by unfold n_z; decide) (by simp) n_ac_long (by decide) ⟨by simp [n_rm], by simp [n_rm]⟩ dX4_init_71 (fun H w => ?_)
  have w : n_W D b0 r 0 (13) 3 [.ref (r (14)), .ref (r (15)), .ref (r (16)), .ref (r (17)), .ref (r (18)), .ref (r (19)), .ref (r (20)), .ref (r (21)), .null] (23) s H locs := w
  refine W.widen (k := 9) (n := 134) (by omega) (by omega) ?_
  refine n_putF C w (v := (.ref (r (22)))) nlX4_37 (by decide) (by decide) (Nat.le_of_ble_eq_true rfl) rfl rfl dX4_init_73 (fun H locs w => ?_)
  have w : n_W D b0 r 0 (13) 3 [.ref (r (14)), .ref (r (15)), .ref (r (16)), .ref (r (17)), .ref (r (18)), .ref (r (19)), .ref (r (20)), .ref (r (21)), .ref (r (22))] (23) s H locs := w
  exact n_ret (n := 9) (ms := 134) C w rfl rfl (fun j hj => match j, hj with | 0, _ => rfl | 1, _ => rfl | 2, _ => rfl | 3, _ => rfl | 4, _ => rfl | 5, _ => rfl | 6, _ => rfl | 7, _ => rfl | 8, _ => rfl | k + 9, h => absurd (show k + 9 < 9 from h) (by omega)) ⟨fun q => absurd q (by decide), fun q => absurd q (by decide)⟩ rfl (by decide) (by decide) (by decide) dX4_init_76
set_option maxHeartbeats 4000000 in
set_option maxRecDepth 100000 in
theorem k_X8_init (l : Launch) (D : va_G) (b0 : Nat) (r : Nat → Nat) (hr : ∀ k, k < 173 → r k = b0 + k) : n_M l yX8_init cX8_init 1 1 12 3 136 D b0 r [.ref (r (23))] (23) 7 (fun _ => True) := by
  refine n_enter hr (by decide) rfl (Nat.le_of_ble_eq_true rfl) ?_
  intro p e s m args below meth c C w hsz hpre ls hl
  have C : n_C p c cX8_init 1 RX8 m meth s args D b0 r := C
  have hl : lv_has ls 1 [(0, .ref (r (23)))] := hl
  refine lv_aload_n C.1 C.2.1 dX8_init_0 rfl (lv_at hl 0 rfl) ?_
  refine n_init C hl (in_r3 _ (List.mem_of_getElem? (i := 17) rfl)) n_oi1 n_oi2 ⟨by decide, by decide⟩ dX8_init_1 ?_
  refine lv_aload_n C.1 C.2.1 dX8_init_4 rfl (lv_at hl 0 rfl) ?_
  refine lv_bipush (v := 8) C.1 C.2.1 dX8_init_5 (by decide) ?_
  refine n_newa (atype := .int) (n := 8) C w rfl (by unfold n_z; decide) (by simp) n_ac_int (by decide) ⟨by simp [n_rm], by simp [n_rm]⟩ dX8_init_7 (fun H w => ?_)
  have w : n_W D b0 r 0 (23) 7 [.null, .null, .null, .int 0, .long 0] (25) s H [] := w
  refine W.widen (k := 1) (n := 8) (by omega) (by omega) ?_
  refine n_putF C w (v := (.ref (r (24)))) nlX8_7 (by decide) (by decide) (Nat.le_of_ble_eq_true rfl) rfl rfl dX8_init_9 (fun H locs w => ?_)
  have w : n_W D b0 r 0 (23) 7 [.ref (r (24)), .null, .null, .int 0, .long 0] (25) s H locs := w
  refine lv_aload_n C.1 C.2.1 dX8_init_12 rfl (lv_at hl 0 rfl) ?_
  refine lv_bipush (v := 64) C.1 C.2.1 dX8_init_13 (by decide) ?_
  refine n_newa (atype := .int) (n := 64) C w rfl (by unfold n_z; decide) (by simp) n_ac_int (by decide) ⟨by simp [n_rm], by simp [n_rm]⟩ dX8_init_15 (fun H w => ?_)
  have w : n_W D b0 r 0 (23) 7 [.ref (r (24)), .null, .null, .int 0, .long 0] (26) s H locs := w
  refine W.widen (k := 2) (n := 72) (by omega) (by omega) ?_
  refine n_putF C w (v := (.ref (r (25)))) nlX8_13 (by decide) (by decide) (Nat.le_of_ble_eq_true rfl) rfl rfl dX8_init_17 (fun H locs w => ?_)
  have w : n_W D b0 r 0 (23) 7 [.ref (r (24)), .ref (r (25)), .null, .int 0, .long 0] (26) s H locs := w
  refine lv_aload_n C.1 C.2.1 dX8_init_20 rfl (lv_at hl 0 rfl) ?_
  refine lv_bipush (v := 64) C.1 C.2.1 dX8_init_21 (by decide) ?_
  refine n_newa (atype := .byte) (n := 64) C w rfl (by unfold n_z; decide) (by simp) n_ac_byte (by decide) ⟨by simp [n_rm], by simp [n_rm]⟩ dX8_init_23 (fun H w => ?_)
  have w : n_W D b0 r 0 (23) 7 [.ref (r (24)), .ref (r (25)), .null, .int 0, .long 0] (27) s H locs := w
  refine W.widen (k := 3) (n := 136) (by omega) (by omega) ?_
  refine n_putF C w (v := (.ref (r (26)))) nlX8_16 (by decide) (by decide) (Nat.le_of_ble_eq_true rfl) rfl rfl dX8_init_25 (fun H locs w => ?_)
  have w : n_W D b0 r 0 (23) 7 [.ref (r (24)), .ref (r (25)), .ref (r (26)), .int 0, .long 0] (27) s H locs := w
  refine lv_aload_n C.1 C.2.1 dX8_init_28 rfl (lv_at hl 0 rfl) ?_
  refine lv_iconst (v := 0) C.1 C.2.1 dX8_init_29 (by decide) ?_
  refine n_put C w (v := (.int 0)) flX8_20w (by decide) (by decide) (Nat.le_of_ble_eq_true rfl) (by decide) (by decide) dX8_init_30 (fun H locs w => ?_)
  have w : n_W D b0 r 0 (23) 7 [.ref (r (24)), .ref (r (25)), .ref (r (26)), .int 0, .long 0] (27) s H locs := w
  refine lv_aload_n C.1 C.2.1 dX8_init_33 rfl (lv_at hl 0 rfl) ?_
  refine lv_lconst (v := 0) C.1 C.2.1 dX8_init_34 (by decide) ?_
  refine n_put C w (v := (.long 0)) flX8_24w (by decide) (by decide) (Nat.le_of_ble_eq_true rfl) (by decide) (by decide) dX8_init_35 (fun H locs w => ?_)
  have w : n_W D b0 r 0 (23) 7 [.ref (r (24)), .ref (r (25)), .ref (r (26)), .int 0, .long 0] (27) s H locs := w
  exact n_ret (n := 3) (ms := 136) C w rfl rfl (fun j hj => match j, hj with | 0, _ => rfl | 1, _ => rfl | 2, _ => rfl | 3, _ => rfl | 4, _ => rfl | k + 5, h => absurd (show k + 5 < 5 from h) (by omega)) ⟨fun q => absurd q (by decide), fun q => absurd q (by decide)⟩ rfl (by decide) (by decide) (by decide) dX8_init_38
set_option maxHeartbeats 4000000 in
set_option maxRecDepth 100000 in
theorem k_X6_init (l : Launch) (D : va_G) (b0 : Nat) (r : Nat → Nat) (hr : ∀ k, k < 173 → r k = b0 + k) : n_M l yX6_init cX6_init 1 1 12 4 30 D b0 r [.ref (r (36))] (36) 5 (fun _ => True) := by
  refine n_enter hr (by decide) rfl (Nat.le_of_ble_eq_true rfl) ?_
  intro p e s m args below meth c C w hsz hpre ls hl
  have C : n_C p c cX6_init 1 RX6 m meth s args D b0 r := C
  have hl : lv_has ls 1 [(0, .ref (r (36)))] := hl
  refine lv_aload_n C.1 C.2.1 dX6_init_0 rfl (lv_at hl 0 rfl) ?_
  refine n_init C hl (in_r5 _ (List.mem_of_getElem? (i := 5) rfl)) n_oi1 n_oi2 ⟨by decide, by decide⟩ dX6_init_1 ?_
  refine lv_aload_n C.1 C.2.1 dX6_init_4 rfl (lv_at hl 0 rfl) ?_
  refine lv_iconst (v := 5) C.1 C.2.1 dX6_init_5 (by decide) ?_
  refine n_newa (atype := .long) (n := 5) C w rfl (by unfold n_z; decide) (by simp) n_ac_long (by decide) ⟨by simp [n_rm], by simp [n_rm]⟩ dX6_init_6 (fun H w => ?_)
  have w : n_W D b0 r 0 (36) 5 [.null, .null, .null, .null] (38) s H [] := w
  refine W.widen (k := 1) (n := 5) (by omega) (by omega) ?_
  refine n_putF C w (v := (.ref (r (37)))) nlX6_7 (by decide) (by decide) (Nat.le_of_ble_eq_true rfl) rfl rfl dX6_init_8 (fun H locs w => ?_)
  have w : n_W D b0 r 0 (36) 5 [.ref (r (37)), .null, .null, .null] (38) s H locs := w
  refine lv_aload_n C.1 C.2.1 dX6_init_11 rfl (lv_at hl 0 rfl) ?_
  refine lv_iconst (v := 5) C.1 C.2.1 dX6_init_12 (by decide) ?_
  refine n_newa (atype := .long) (n := 5) C w rfl (by unfold n_z; decide) (by simp) n_ac_long (by decide) ⟨by simp [n_rm], by simp [n_rm]⟩ dX6_init_13 (fun H w => ?_)
  have w : n_W D b0 r 0 (36) 5 [.ref (r (37)), .null, .null, .null] (39) s H locs := w
  refine W.widen (k := 2) (n := 10) (by omega) (by omega) ?_
  refine n_putF C w (v := (.ref (r (38)))) nlX6_13 (by decide) (by decide) (Nat.le_of_ble_eq_true rfl) rfl rfl dX6_init_15 (fun H locs w => ?_)
  have w : n_W D b0 r 0 (36) 5 [.ref (r (37)), .ref (r (38)), .null, .null] (39) s H locs := w
  refine lv_aload_n C.1 C.2.1 dX6_init_18 rfl (lv_at hl 0 rfl) ?_
  refine lv_bipush (v := 16) C.1 C.2.1 dX6_init_19 (by decide) ?_
  refine n_newa (atype := .byte) (n := 16) C w rfl (by unfold n_z; decide) (by simp) n_ac_byte (by decide) ⟨by simp [n_rm], by simp [n_rm]⟩ dX6_init_21 (fun H w => ?_)
  have w : n_W D b0 r 0 (36) 5 [.ref (r (37)), .ref (r (38)), .null, .null] (40) s H locs := w
  refine W.widen (k := 3) (n := 26) (by omega) (by omega) ?_
  refine n_putF C w (v := (.ref (r (39)))) nlX6_16 (by decide) (by decide) (Nat.le_of_ble_eq_true rfl) rfl rfl dX6_init_23 (fun H locs w => ?_)
  have w : n_W D b0 r 0 (36) 5 [.ref (r (37)), .ref (r (38)), .ref (r (39)), .null] (40) s H locs := w
  refine lv_aload_n C.1 C.2.1 dX6_init_26 rfl (lv_at hl 0 rfl) ?_
  refine lv_iconst (v := 4) C.1 C.2.1 dX6_init_27 (by decide) ?_
  refine n_newa (atype := .int) (n := 4) C w rfl (by unfold n_z; decide) (by simp) n_ac_int (by decide) ⟨by simp [n_rm], by simp [n_rm]⟩ dX6_init_28 (fun H w => ?_)
  have w : n_W D b0 r 0 (36) 5 [.ref (r (37)), .ref (r (38)), .ref (r (39)), .null] (41) s H locs := w
  refine W.widen (k := 4) (n := 30) (by omega) (by omega) ?_
  refine n_putF C w (v := (.ref (r (40)))) nlX6_20 (by decide) (by decide) (Nat.le_of_ble_eq_true rfl) rfl rfl dX6_init_30 (fun H locs w => ?_)
  have w : n_W D b0 r 0 (36) 5 [.ref (r (37)), .ref (r (38)), .ref (r (39)), .ref (r (40))] (41) s H locs := w
  exact n_ret (n := 4) (ms := 30) C w rfl rfl (fun j hj => match j, hj with | 0, _ => rfl | 1, _ => rfl | 2, _ => rfl | 3, _ => rfl | k + 4, h => absurd (show k + 4 < 4 from h) (by omega)) ⟨fun q => absurd q (by decide), fun q => absurd q (by decide)⟩ rfl (by decide) (by decide) (by decide) dX6_init_33
set_option maxHeartbeats 4000000 in
set_option maxRecDepth 100000 in
theorem k_X5_init (l : Launch) (D : va_G) (b0 : Nat) (r : Nat → Nat) (hr : ∀ k, k < 173 → r k = b0 + k) : n_M l yX5_init cX5_init 2 1 12 3 128 D b0 r [.ref (r (27)), .ref (r (23))] (27) 4 (fun _ => True) := by
  refine n_enter hr (by decide) rfl (Nat.le_of_ble_eq_true rfl) ?_
  intro p e s m args below meth c C w hsz hpre ls hl
  have C : n_C p c cX5_init 2 RX5 m meth s args D b0 r := C
  have hl : lv_has ls 2 [(0, .ref (r (27))), (1, .ref (r (23)))] := hl
  refine lv_aload_n C.1 C.2.1 dX5_init_0 rfl (lv_at hl 0 rfl) ?_
  refine n_init C hl (in_r4 _ (List.mem_of_getElem? (i := 3) rfl)) n_oi1 n_oi2 ⟨by decide, by decide⟩ dX5_init_1 ?_
  refine lv_aload_n C.1 C.2.1 dX5_init_4 rfl (lv_at hl 0 rfl) ?_
  refine lv_bipush (v := 64) C.1 C.2.1 dX5_init_5 (by decide) ?_
  refine n_newa (atype := .byte) (n := 64) C w rfl (by unfold n_z; decide) (by simp) n_ac_byte (by decide) ⟨by simp [n_rm], by simp [n_rm]⟩ dX5_init_7 (fun H w => ?_)
  have w : n_W D b0 r 0 (27) 4 [.null, .null, .null, .null] (29) s H [] := w
  refine W.widen (k := 1) (n := 64) (by omega) (by omega) ?_
  refine n_putF C w (v := (.ref (r (28)))) nlX5_11 (by decide) (by decide) (Nat.le_of_ble_eq_true rfl) rfl rfl dX5_init_9 (fun H locs w => ?_)
  have w : n_W D b0 r 0 (27) 4 [.null, .ref (r (28)), .null, .null] (29) s H locs := w
  refine lv_aload_n C.1 C.2.1 dX5_init_12 rfl (lv_at hl 0 rfl) ?_
  refine lv_bipush (v := 32) C.1 C.2.1 dX5_init_13 (by decide) ?_
  refine n_newa (atype := .byte) (n := 32) C w rfl (by unfold n_z; decide) (by simp) n_ac_byte (by decide) ⟨by simp [n_rm], by simp [n_rm]⟩ dX5_init_15 (fun H w => ?_)
  have w : n_W D b0 r 0 (27) 4 [.null, .ref (r (28)), .null, .null] (30) s H locs := w
  refine W.widen (k := 2) (n := 96) (by omega) (by omega) ?_
  refine n_putF C w (v := (.ref (r (29)))) nlX5_15 (by decide) (by decide) (Nat.le_of_ble_eq_true rfl) rfl rfl dX5_init_17 (fun H locs w => ?_)
  have w : n_W D b0 r 0 (27) 4 [.null, .ref (r (28)), .ref (r (29)), .null] (30) s H locs := w
  refine lv_aload_n C.1 C.2.1 dX5_init_20 rfl (lv_at hl 0 rfl) ?_
  refine lv_bipush (v := 32) C.1 C.2.1 dX5_init_21 (by decide) ?_
  refine n_newa (atype := .byte) (n := 32) C w rfl (by unfold n_z; decide) (by simp) n_ac_byte (by decide) ⟨by simp [n_rm], by simp [n_rm]⟩ dX5_init_23 (fun H w => ?_)
  have w : n_W D b0 r 0 (27) 4 [.null, .ref (r (28)), .ref (r (29)), .null] (31) s H locs := w
  refine W.widen (k := 3) (n := 128) (by omega) (by omega) ?_
  refine n_putF C w (v := (.ref (r (30)))) nlX5_18 (by decide) (by decide) (Nat.le_of_ble_eq_true rfl) rfl rfl dX5_init_25 (fun H locs w => ?_)
  have w : n_W D b0 r 0 (27) 4 [.null, .ref (r (28)), .ref (r (29)), .ref (r (30))] (31) s H locs := w
  refine lv_aload_n C.1 C.2.1 dX5_init_28 rfl (lv_at hl 0 rfl) ?_
  refine lv_aload_n C.1 C.2.1 dX5_init_29 rfl (lv_at hl 1 rfl) ?_
  refine n_putF C w (v := (.ref (r (23)))) nlX5_21 (by decide) (by decide) (Nat.le_of_ble_eq_true rfl) rfl rfl dX5_init_30 (fun H locs w => ?_)
  have w : n_W D b0 r 0 (27) 4 [.ref (r (23)), .ref (r (28)), .ref (r (29)), .ref (r (30))] (31) s H locs := w
  exact n_ret (n := 3) (ms := 128) C w rfl rfl (fun j hj => match j, hj with | 0, _ => rfl | 1, _ => rfl | 2, _ => rfl | 3, _ => rfl | k + 4, h => absurd (show k + 4 < 4 from h) (by omega)) ⟨fun q => absurd q (by decide), fun q => absurd q (by decide)⟩ rfl (by decide) (by decide) (by decide) dX5_init_33
set_option maxHeartbeats 4000000 in
set_option maxRecDepth 100000 in
theorem k_X3_init (l : Launch) (D : va_G) (b0 : Nat) (r : Nat → Nat) (hr : ∀ k, k < 173 → r k = b0 + k) (z : Nat) (hz : mm_cip z) (hz3 : z + 3 < 173) (hz42 : 42 < z) (hn : ∀ i, i < 3 → n_z (z + i)) : n_M l yX3_init cX3_init 2 1 12 2 80 D b0 r [.ref (r (z)), .ref (r (31))] (z) 2 (fun _ => True) := by
  refine n_enter hr (by decide) rfl (Nat.le_of_ble_eq_true rfl) ?_
  intro p e s m args below meth c C w hsz hpre ls hl
  have C : n_C p c cX3_init 2 RX3 m meth s args D b0 r := C
  have hl : lv_has ls 2 [(0, .ref (r (z))), (1, .ref (r (31)))] := hl
  refine lv_aload_n C.1 C.2.1 dX3_init_0 rfl (lv_at hl 0 rfl) ?_
  refine n_init C hl (in_r6 _ (List.mem_of_getElem? (i := 4) rfl)) n_oi1 n_oi2 ⟨by decide, by decide⟩ dX3_init_1 ?_
  refine lv_aload_n C.1 C.2.1 dX3_init_4 rfl (lv_at hl 0 rfl) ?_
  refine lv_bipush (v := 32) C.1 C.2.1 dX3_init_5 (by decide) ?_
  refine n_newa (atype := .byte) (n := 32) C w hz.2.2.1 (hn 1 (by decide)) (by simp) n_ac_byte (by decide) ⟨by simp [n_rm], by simp [n_rm]⟩ dX3_init_7 (fun H w => ?_)
  have w : n_W D b0 r 0 (z) 2 [.null, .null, .null, .int 0, .long 0] (z + 2) s H [] := w
  refine W.widen (k := 1) (n := 32) (by omega) (by omega) ?_
  refine n_putF C w (v := (.ref (r (z + 1)))) nlX3_9 (by omega) (by omega) (Nat.le_of_ble_eq_true rfl) rfl rfl dX3_init_9 (fun H locs w => ?_)
  have w : n_W D b0 r 0 (z) 2 [.ref (r (z + 1)), .null, .null, .int 0, .long 0] (z + 2) s H locs := w
  refine lv_aload_n C.1 C.2.1 dX3_init_12 rfl (lv_at hl 0 rfl) ?_
  refine lv_bipush (v := 48) C.1 C.2.1 dX3_init_13 (by decide) ?_
  refine n_newa (atype := .byte) (n := 48) C w hz.2.2.2.1 (hn 2 (by decide)) (by simp) n_ac_byte (by decide) ⟨by simp [n_rm], by simp [n_rm]⟩ dX3_init_15 (fun H w => ?_)
  have w : n_W D b0 r 0 (z) 2 [.ref (r (z + 1)), .null, .null, .int 0, .long 0] (z + 3) s H locs := w
  refine W.widen (k := 2) (n := 80) (by omega) (by omega) ?_
  refine n_putF C w (v := (.ref (r (z + 2)))) nlX3_15 (by omega) (by omega) (Nat.le_of_ble_eq_true rfl) rfl rfl dX3_init_17 (fun H locs w => ?_)
  have w : n_W D b0 r 0 (z) 2 [.ref (r (z + 1)), .ref (r (z + 2)), .null, .int 0, .long 0] (z + 3) s H locs := w
  refine lv_aload_n C.1 C.2.1 dX3_init_20 rfl (lv_at hl 0 rfl) ?_
  refine lv_iconst (v := 0) C.1 C.2.1 dX3_init_21 (by decide) ?_
  refine n_put C w (v := (.int 0)) flX3_18w (by omega) (by omega) (Nat.le_of_ble_eq_true rfl) (by decide) (by decide) dX3_init_22 (fun H locs w => ?_)
  have w : n_W D b0 r 0 (z) 2 [.ref (r (z + 1)), .ref (r (z + 2)), .null, .int 0, .long 0] (z + 3) s H locs := w
  refine lv_aload_n C.1 C.2.1 dX3_init_25 rfl (lv_at hl 0 rfl) ?_
  refine lv_lconst (v := 0) C.1 C.2.1 dX3_init_26 (by decide) ?_
  refine n_put C w (v := (.long 0)) flX3_22w (by omega) (by omega) (Nat.le_of_ble_eq_true rfl) (by decide) (by decide) dX3_init_27 (fun H locs w => ?_)
  have w : n_W D b0 r 0 (z) 2 [.ref (r (z + 1)), .ref (r (z + 2)), .null, .int 0, .long 0] (z + 3) s H locs := w
  refine lv_aload_n C.1 C.2.1 dX3_init_30 rfl (lv_at hl 0 rfl) ?_
  refine lv_aload_n C.1 C.2.1 dX3_init_31 rfl (lv_at hl 1 rfl) ?_
  refine n_putF C w (v := (.ref (r (31)))) nlX3_26 (by omega) (by omega) (Nat.le_of_ble_eq_true rfl) rfl rfl dX3_init_32 (fun H locs w => ?_)
  have w : n_W D b0 r 0 (z) 2 [.ref (r (z + 1)), .ref (r (z + 2)), .ref (r (31)), .int 0, .long 0] (z + 3) s H locs := w
  exact n_ret (n := 2) (ms := 80) C w rfl hz.2.1 (fun j hj => match j, hj with | 0, _ => (mm_v3 hz.2.2.2.2.1).symm | 1, _ => (mm_v3 hz.2.2.2.2.2.1).symm | 2, _ => (mm_v3 (n := 31) hz.2.2.2.2.2.2.1).symm | 3, _ => ((mm_v0 hz.2.2.2.2.2.2.2.1).trans (congrArg Value.int ((hn 0 (by decide)).at 3))).symm | 4, _ => (mm_v1 (r := r) (M := mm_M1) (k := z) (j := 4) hz.2.2.2.2.2.2.2.2).symm | k + 5, h => absurd (show k + 5 < 5 from h) (by omega)) ⟨fun _ => Or.inl ((hn 0 (by decide)).at 3), fun q => absurd q (by decide)⟩ rfl (by omega) (by decide) (by decide) dX3_init_35

section NO
variable {p : Program} {s : State} {m : MethodId} {args : Array Value} {meth : Method} {c : Code} {H : Heap} {locs : List Loc} {cc : ByteArray} {nL : Nat} {own : String} {D : va_G} {b0 : Nat} {r : Nat → Nat}
/-- an object that stood before -/
theorem n_old (C : n_C p c cc nL own m meth s args D b0 r) {k0 k ci2 : Nat} {gs : List Value} (hS : va_S (fun q => b0 + k0 ≤ q) s.heap H locs) (h : n_O D r s.heap k ci2 gs) (h1 : k < k0) (h2 : k0 < 173) : n_O D r H k ci2 gs := by
  have hr := C.2.2.2.2.2.2.2.2.2.1
  refine h.kept (hS.2.1 _ h.lt ?_)
  rw [hr k (by omega)]; omega
end NO
theorem n_s0 {x : Nat} (h : ∃ s, s < 4 ∧ x = 49 + 17 * s) (j : Nat) (hj : j ≠ 10) : mm_m0 x j = 0 := by
  obtain ⟨s, hs, rfl⟩ := h
  unfold mm_m0
  rw [if_neg (by omega), if_neg (by omega), if_neg (by omega), if_neg (fun q => hj q.2.2.2)]
theorem n_s1 {x : Nat} (h : ∃ s, s < 4 ∧ x = 49 + 17 * s) : mm_m0 x 10 = -1 := by
  obtain ⟨s, hs, rfl⟩ := h
  unfold mm_m0
  rw [if_neg (by omega), if_neg (by omega), if_neg (by omega), if_pos (by omega)]
set_option maxHeartbeats 4000000 in
set_option maxRecDepth 100000 in
theorem k_X0_init (l : Launch) (D : va_G) (b0 : Nat) (r : Nat → Nat) (hr : ∀ k, k < 173 → r k = b0 + k) : n_M l yX0_init cX0_init 1 2 32 10 149 D b0 r [.ref (r (31))] (31) 0 (fun _ => True) := by
  refine n_enter hr (by decide) rfl (Nat.le_of_ble_eq_true rfl) ?_
  intro p e s m args below meth c C w hsz hpre ls hl
  have C : n_C p c cX0_init 1 RX0 m meth s args D b0 r := C
  have hl : lv_has ls 1 [(0, .ref (r (31)))] := hl
  refine lv_aload_n C.1 C.2.1 dX0_init_0 rfl (lv_at hl 0 rfl) ?_
  refine n_init C hl (in_r4 _ (List.mem_of_getElem? (i := 10) rfl)) n_oi1 n_oi2 ⟨by decide, by decide⟩ dX0_init_1 ?_
  refine lv_aload_n C.1 C.2.1 dX0_init_4 rfl (lv_at hl 0 rfl) ?_
  refine n_new (ci2 := 1) (N := 3) C w nk2 rfl rfl (in_r4 _ (List.mem_of_getElem? (i := 11) rfl)) (by decide) ⟨by simp [n_rm], by simp [n_rm]⟩ dX0_init_5 (fun H w => ?_)
  have w : n_Y D b0 r 0 (31) 0 [.null, .null, .null, .int 0] (32) 1 s H [] := w
  refine W.widen (k := 1) (n := 3) (by omega) (by omega) ?_
  refine lv_dup C.1 C.2.1 dX0_init_8 rfl ?_
  refine n_callN (As := []) (rest := [.ref (r (32)), .ref (r (31))]) (na := 0) C w hl (by decide) (by decide) (k_X2_init l D b0 r hr) trivial C.2.2.2.2.2.2.2.2.2.2.2.2.2.2.1 (in_r4 _ (List.mem_of_getElem? (i := 21) rfl)) (in_r4 _ (List.mem_of_getElem? (i := 13) rfl)) (in_r4 _ (List.mem_of_getElem? (i := 22) rfl)) (by decide +kernel) rfl rfl rfl (by simp [Value.category]) ⟨by decide, by decide⟩ ⟨by simp [n_rm], by simp [n_rm]⟩ dX0_init_9 (fun H locs w => ?_)
  have w : n_W D b0 r 0 (31) 0 [.null, .null, .null, .int 0] (36) s H locs := w
  refine W.widen (k := 4) (n := 99) (by omega) (by omega) ?_
  refine n_putF C w (v := (.ref (r (32)))) nlX0_12 (by decide) (by decide) (Nat.le_of_ble_eq_true rfl) rfl rfl dX0_init_12 (fun H locs w => ?_)
  have w : n_W D b0 r 0 (31) 0 [.ref (r (32)), .null, .null, .int 0] (36) s H locs := w
  refine lv_aload_n C.1 C.2.1 dX0_init_15 rfl (lv_at hl 0 rfl) ?_
  refine n_new (ci2 := 5) (N := 4) C w nk6 rfl rfl (in_r4 _ (List.mem_of_getElem? (i := 15) rfl)) (by decide) ⟨by simp [n_rm], by simp [n_rm]⟩ dX0_init_16 (fun H w => ?_)
  have w : n_Y D b0 r 0 (31) 0 [.ref (r (32)), .null, .null, .int 0] (36) 5 s H locs := w
  refine W.widen (k := 5) (n := 103) (by omega) (by omega) ?_
  refine lv_dup C.1 C.2.1 dX0_init_19 rfl ?_
  refine n_callN (As := []) (rest := [.ref (r (36)), .ref (r (31))]) (na := 0) C w hl (by decide) (by decide) (k_X6_init l D b0 r hr) trivial C.2.2.2.2.2.2.2.2.2.2.2.2.2.2.2.1 (in_r5 _ (List.mem_of_getElem? (i := 3) rfl)) (in_r4 _ (List.mem_of_getElem? (i := 17) rfl)) (in_r5 _ (List.mem_of_getElem? (i := 4) rfl)) (by decide +kernel) rfl rfl rfl (by simp [Value.category]) ⟨by decide, by decide⟩ ⟨by simp [n_rm], by simp [n_rm]⟩ dX0_init_20 (fun H locs w => ?_)
  have w : n_W D b0 r 0 (31) 0 [.ref (r (32)), .null, .null, .int 0] (41) s H locs := w
  refine W.widen (k := 9) (n := 133) (by omega) (by omega) ?_
  refine n_putF C w (v := (.ref (r (36)))) nlX0_21 (by decide) (by decide) (Nat.le_of_ble_eq_true rfl) rfl rfl dX0_init_23 (fun H locs w => ?_)
  have w : n_W D b0 r 0 (31) 0 [.ref (r (32)), .ref (r (36)), .null, .int 0] (41) s H locs := w
  refine lv_aload_n C.1 C.2.1 dX0_init_26 rfl (lv_at hl 0 rfl) ?_
  refine lv_bipush (v := 16) C.1 C.2.1 dX0_init_27 (by decide) ?_
  refine n_newa (atype := .byte) (n := 16) C w rfl (by unfold n_z; decide) (by simp) n_ac_byte (by decide) ⟨by simp [n_rm], by simp [n_rm]⟩ dX0_init_29 (fun H w => ?_)
  have w : n_W D b0 r 0 (31) 0 [.ref (r (32)), .ref (r (36)), .null, .int 0] (42) s H locs := w
  refine W.widen (k := 10) (n := 149) (by omega) (by omega) ?_
  refine n_putF C w (v := (.ref (r (41)))) nlX0_25 (by decide) (by decide) (Nat.le_of_ble_eq_true rfl) rfl rfl dX0_init_31 (fun H locs w => ?_)
  have w : n_W D b0 r 0 (31) 0 [.ref (r (32)), .ref (r (36)), .ref (r (41)), .int 0] (42) s H locs := w
  refine lv_aload_n C.1 C.2.1 dX0_init_34 rfl (lv_at hl 0 rfl) ?_
  refine lv_iconst (v := 0) C.1 C.2.1 dX0_init_35 (by decide) ?_
  refine n_put C w (v := (.int 0)) flX0_29w (by decide) (by decide) (Nat.le_of_ble_eq_true rfl) (by decide) (by decide) dX0_init_36 (fun H locs w => ?_)
  have w : n_W D b0 r 0 (31) 0 [.ref (r (32)), .ref (r (36)), .ref (r (41)), .int 0] (42) s H locs := w
  exact n_ret (n := 10) (ms := 149) C w rfl rfl (fun j hj => match j, hj with | 0, _ => rfl | 1, _ => rfl | 2, _ => rfl | 3, _ => rfl | k + 4, h => absurd (show k + 4 < 4 from h) (by omega)) ⟨fun q => absurd q (by decide), fun q => absurd q (by decide)⟩ rfl (by decide) (by decide) (by decide) dX0_init_39
set_option maxHeartbeats 4000000 in
set_option maxRecDepth 100000 in
theorem k_X9_init (l : Launch) (D : va_G) (b0 : Nat) (r : Nat → Nat) (hr : ∀ k, k < 173 → r k = b0 + k) : n_M l yX9_init cX9_init 1 3 52 29 569 D b0 r [.ref (r (12))] (12) 8 (fun _ => True) := by
  refine n_enter hr (by decide) rfl (Nat.le_of_ble_eq_true rfl) ?_
  intro p e s m args below meth c C w hsz hpre ls hl
  have C : n_C p c cX9_init 1 RX9 m meth s args D b0 r := C
  have hl : lv_has ls 1 [(0, .ref (r (12)))] := hl
  refine lv_aload_n C.1 C.2.1 dX9_init_0 rfl (lv_at hl 0 rfl) ?_
  refine n_init C hl (in_r2 _ (List.mem_of_getElem? (i := 9) rfl)) n_oi1 n_oi2 ⟨by decide, by decide⟩ dX9_init_1 ?_
  refine lv_aload_n C.1 C.2.1 dX9_init_4 rfl (lv_at hl 0 rfl) ?_
  refine n_new (ci2 := 3) (N := 9) C w nk4 rfl rfl (in_r2 _ (List.mem_of_getElem? (i := 10) rfl)) (by decide) ⟨by simp [n_rm], by simp [n_rm]⟩ dX9_init_5 (fun H w => ?_)
  have w : n_Y D b0 r 0 (12) 8 [.null, .null, .null, .null] (13) 3 s H [] := w
  refine W.widen (k := 1) (n := 9) (by omega) (by omega) ?_
  refine lv_dup C.1 C.2.1 dX9_init_8 rfl ?_
  refine n_callN (As := []) (rest := [.ref (r (13)), .ref (r (12))]) (na := 0) C w hl (by decide) (by decide) (k_X4_init l D b0 r hr) trivial C.2.2.2.2.2.2.2.2.2.2.2.1 (in_r3 _ (List.mem_of_getElem? (i := 2) rfl)) (in_r2 _ (List.mem_of_getElem? (i := 12) rfl)) (in_r3 _ (List.mem_of_getElem? (i := 3) rfl)) (by decide +kernel) rfl rfl rfl (by simp [Value.category]) ⟨by decide, by decide⟩ ⟨by simp [n_rm], by simp [n_rm]⟩ dX9_init_9 (fun H locs w => ?_)
  have w : n_W D b0 r 0 (12) 8 [.null, .null, .null, .null] (23) s H locs := w
  refine W.widen (k := 10) (n := 143) (by omega) (by omega) ?_
  refine n_putF C w (v := (.ref (r (13)))) nlX9_10 (by decide) (by decide) (Nat.le_of_ble_eq_true rfl) rfl rfl dX9_init_12 (fun H locs w => ?_)
  have w : n_W D b0 r 0 (12) 8 [.ref (r (13)), .null, .null, .null] (23) s H locs := w
  refine lv_aload_n C.1 C.2.1 dX9_init_15 rfl (lv_at hl 0 rfl) ?_
  refine n_new (ci2 := 7) (N := 5) C w nk8 rfl rfl (in_r2 _ (List.mem_of_getElem? (i := 14) rfl)) (by decide) ⟨by simp [n_rm], by simp [n_rm]⟩ dX9_init_16 (fun H w => ?_)
  have w : n_Y D b0 r 0 (12) 8 [.ref (r (13)), .null, .null, .null] (23) 7 s H locs := w
  refine W.widen (k := 11) (n := 148) (by omega) (by omega) ?_
  refine lv_dup C.1 C.2.1 dX9_init_19 rfl ?_
  refine n_callN (As := []) (rest := [.ref (r (23)), .ref (r (12))]) (na := 0) C w hl (by decide) (by decide) (k_X8_init l D b0 r hr) trivial C.2.2.2.2.2.2.2.2.2.2.2.2.1 (in_r3 _ (List.mem_of_getElem? (i := 15) rfl)) (in_r2 _ (List.mem_of_getElem? (i := 16) rfl)) (in_r3 _ (List.mem_of_getElem? (i := 16) rfl)) (by decide +kernel) rfl rfl rfl (by simp [Value.category]) ⟨by decide, by decide⟩ ⟨by simp [n_rm], by simp [n_rm]⟩ dX9_init_20 (fun H locs w => ?_)
  have w : n_W D b0 r 0 (12) 8 [.ref (r (13)), .null, .null, .null] (27) s H locs := w
  refine W.widen (k := 14) (n := 284) (by omega) (by omega) ?_
  refine n_putF C w (v := (.ref (r (23)))) nlX9_19 (by decide) (by decide) (Nat.le_of_ble_eq_true rfl) rfl rfl dX9_init_23 (fun H locs w => ?_)
  have w : n_W D b0 r 0 (12) 8 [.ref (r (13)), .ref (r (23)), .null, .null] (27) s H locs := w
  refine lv_aload_n C.1 C.2.1 dX9_init_26 rfl (lv_at hl 0 rfl) ?_
  refine n_new (ci2 := 4) (N := 4) C w nk5 rfl rfl (in_r2 _ (List.mem_of_getElem? (i := 18) rfl)) (by decide) ⟨by simp [n_rm], by simp [n_rm]⟩ dX9_init_27 (fun H w => ?_)
  have w : n_Y D b0 r 0 (12) 8 [.ref (r (13)), .ref (r (23)), .null, .null] (27) 4 s H locs := w
  refine W.widen (k := 15) (n := 288) (by omega) (by omega) ?_
  refine lv_dup C.1 C.2.1 dX9_init_30 rfl ?_
  refine lv_aload_n C.1 C.2.1 dX9_init_31 rfl (lv_at hl 0 rfl) ?_
  refine n_get C (v := .ref (r (23))) flX9_19 w.2.1 rfl dX9_init_32 ?_
  refine n_call (As := [.ref (r (23))]) (rest := [.ref (r (27)), .ref (r (12))]) (na := 1) C w hl (by decide) (by decide) (k_X5_init l D b0 r hr) trivial (in_r4 _ (List.mem_of_getElem? (i := 0) rfl)) (in_r4 _ (List.mem_of_getElem? (i := 1) rfl)) (in_r2 _ (List.mem_of_getElem? (i := 20) rfl)) (in_r4 _ (List.mem_of_getElem? (i := 2) rfl)) (by decide +kernel) rfl rfl rfl (by simp [Value.category]) ⟨by decide, by decide⟩ ⟨by simp [n_rm], by simp [n_rm]⟩ dX9_init_35 (fun H locs w => ?_)
  have w : n_W D b0 r 0 (12) 8 [.ref (r (13)), .ref (r (23)), .null, .null] (31) s H locs := w
  refine W.widen (k := 18) (n := 416) (by omega) (by omega) ?_
  refine n_putF C w (v := (.ref (r (27)))) nlX9_28 (by decide) (by decide) (Nat.le_of_ble_eq_true rfl) rfl rfl dX9_init_38 (fun H locs w => ?_)
  have w : n_W D b0 r 0 (12) 8 [.ref (r (13)), .ref (r (23)), .ref (r (27)), .null] (31) s H locs := w
  refine lv_aload_n C.1 C.2.1 dX9_init_41 rfl (lv_at hl 0 rfl) ?_
  refine n_new (ci2 := 0) (N := 4) C w nk0 rfl rfl (in_r2 _ (List.mem_of_getElem? (i := 22) rfl)) (by decide) ⟨by simp [n_rm], by simp [n_rm]⟩ dX9_init_42 (fun H w => ?_)
  have w : n_Y D b0 r 0 (12) 8 [.ref (r (13)), .ref (r (23)), .ref (r (27)), .null] (31) 0 s H locs := w
  refine W.widen (k := 19) (n := 420) (by omega) (by omega) ?_
  refine lv_dup C.1 C.2.1 dX9_init_45 rfl ?_
  refine n_callN (As := []) (rest := [.ref (r (31)), .ref (r (12))]) (na := 0) C w hl (by decide) (by decide) (k_X0_init l D b0 r hr) trivial C.2.2.2.2.2.2.2.2.2.2.2.2.2.1 (in_r4 _ (List.mem_of_getElem? (i := 8) rfl)) (in_r3 _ (List.mem_of_getElem? (i := 0) rfl)) (in_r4 _ (List.mem_of_getElem? (i := 9) rfl)) (by decide +kernel) rfl rfl rfl (by simp [Value.category]) ⟨by decide, by decide⟩ ⟨by simp [n_rm], by simp [n_rm]⟩ dX9_init_46 (fun H locs w => ?_)
  have w : n_W D b0 r 0 (12) 8 [.ref (r (13)), .ref (r (23)), .ref (r (27)), .null] (42) s H locs := w
  refine W.widen (k := 29) (n := 569) (by omega) (by omega) ?_
  refine n_putF C w (v := (.ref (r (31)))) nlX9_35 (by decide) (by decide) (Nat.le_of_ble_eq_true rfl) rfl rfl dX9_init_49 (fun H locs w => ?_)
  have w : n_W D b0 r 0 (12) 8 [.ref (r (13)), .ref (r (23)), .ref (r (27)), .ref (r (31))] (42) s H locs := w
  exact n_ret (n := 29) (ms := 569) C w rfl rfl (fun j hj => match j, hj with | 0, _ => rfl | 1, _ => rfl | 2, _ => rfl | 3, _ => rfl | k + 4, h => absurd (show k + 4 < 4 from h) (by omega)) ⟨fun q => absurd q (by decide), fun q => absurd q (by decide)⟩ rfl (by decide) (by decide) (by decide) dX9_init_52
set_option maxHeartbeats 4000000 in
set_option maxRecDepth 100000 in
theorem k_X10_init (l : Launch) (D : va_G) (b0 : Nat) (r : Nat → Nat) (hr : ∀ k, k < 173 → r k = b0 + k) (y : Nat) (hy : mm_sym y) (hy6 : y + 6 < 173) (hy43 : 43 ≤ y) (hn : ∀ i, i < 6 → n_z (y + i)) : n_M l yX10_init cX10_init 2 2 33 5 149 D b0 r [.ref (r (y)), .ref (r (12))] (y) 9 (fun H => n_O D r H 12 8 [.ref (r 13), .ref (r 23), .ref (r 27), .ref (r 31)]) := by
  refine n_enter hr (by decide) rfl (Nat.le_of_ble_eq_true rfl) ?_
  intro p e s m args below meth c C w hsz hpre ls hl
  have C : n_C p c cX10_init 2 RX10 m meth s args D b0 r := C
  have hl : lv_has ls 2 [(0, .ref (r (y))), (1, .ref (r (12)))] := hl
  refine lv_aload_n C.1 C.2.1 dX10_init_0 rfl (lv_at hl 0 rfl) ?_
  refine n_init C hl (in_r5 _ (List.mem_of_getElem? (i := 13) rfl)) n_oi1 n_oi2 ⟨by decide, by decide⟩ dX10_init_1 ?_
  refine lv_aload_n C.1 C.2.1 dX10_init_4 rfl (lv_at hl 0 rfl) ?_
  refine lv_bipush (v := 32) C.1 C.2.1 dX10_init_5 (by decide) ?_
  refine n_newa (atype := .byte) (n := 32) C w hy.2.2.1 (hn 1 (by decide)) (by simp) n_ac_byte (by decide) ⟨by simp [n_rm], by simp [n_rm]⟩ dX10_init_7 (fun H w => ?_)
  have w : n_W D b0 r 0 (y) 9 [.null, .null, .null, .null, .null] (y + 2) s H [] := w
  refine W.widen (k := 1) (n := 32) (by omega) (by omega) ?_
  refine n_putF C w (v := (.ref (r (y + 1)))) nlX10_9 (by omega) (by omega) (Nat.le_of_ble_eq_true rfl) rfl rfl dX10_init_9 (fun H locs w => ?_)
  have w : n_W D b0 r 0 (y) 9 [.ref (r (y + 1)), .null, .null, .null, .null] (y + 2) s H locs := w
  refine lv_aload_n C.1 C.2.1 dX10_init_12 rfl (lv_at hl 0 rfl) ?_
  refine lv_bipush (v := 32) C.1 C.2.1 dX10_init_13 (by decide) ?_
  refine n_newa (atype := .byte) (n := 32) C w hy.2.2.2.1 (hn 2 (by decide)) (by simp) n_ac_byte (by decide) ⟨by simp [n_rm], by simp [n_rm]⟩ dX10_init_15 (fun H w => ?_)
  have w : n_W D b0 r 0 (y) 9 [.ref (r (y + 1)), .null, .null, .null, .null] (y + 3) s H locs := w
  refine W.widen (k := 2) (n := 64) (by omega) (by omega) ?_
  refine n_putF C w (v := (.ref (r (y + 2)))) nlX10_15 (by omega) (by omega) (Nat.le_of_ble_eq_true rfl) rfl rfl dX10_init_17 (fun H locs w => ?_)
  have w : n_W D b0 r 0 (y) 9 [.ref (r (y + 1)), .ref (r (y + 2)), .null, .null, .null] (y + 3) s H locs := w
  refine lv_aload_n C.1 C.2.1 dX10_init_20 rfl (lv_at hl 0 rfl) ?_
  refine n_new (ci2 := 2) (N := 5) C w nk3 rfl rfl (in_r5 _ (List.mem_of_getElem? (i := 16) rfl)) (by omega) ⟨by simp [n_rm], by simp [n_rm]⟩ dX10_init_21 (fun H w => ?_)
  have w : n_Y D b0 r 0 (y) 9 [.ref (r (y + 1)), .ref (r (y + 2)), .null, .null, .null] (y + 3) 2 s H locs := w
  refine W.widen (k := 3) (n := 69) (by omega) (by omega) ?_
  refine lv_dup C.1 C.2.1 dX10_init_24 rfl ?_
  refine lv_aload_n C.1 C.2.1 dX10_init_25 rfl (lv_at hl 1 rfl) ?_
  refine n_get C (v := .ref (r (31))) flX10_20 (n_old C w.2.2.2.1 hpre (by omega) (by omega)) rfl dX10_init_26 ?_
  refine n_call (As := [.ref (r (31))]) (rest := [.ref (r (y + 3)), .ref (r (y))]) (na := 1) C w hl (by omega) (by omega) (k_X3_init l D b0 r hr (y + 3) hy.2.2.2.2.1 (by omega) (by omega) (fun i hi => by rw [Nat.add_assoc]; exact hn (3 + i) (by omega))) trivial (in_r6 _ (List.mem_of_getElem? (i := 1) rfl)) (in_r6 _ (List.mem_of_getElem? (i := 2) rfl)) (in_r5 _ (List.mem_of_getElem? (i := 18) rfl)) (in_r6 _ (List.mem_of_getElem? (i := 3) rfl)) (by decide +kernel) rfl rfl rfl (by simp [Value.category]) ⟨by decide, by decide⟩ ⟨by simp [n_rm], by simp [n_rm]⟩ dX10_init_29 (fun H locs w => ?_)
  have w : n_W D b0 r 0 (y) 9 [.ref (r (y + 1)), .ref (r (y + 2)), .null, .null, .null] (y + 6) s H locs := w
  refine W.widen (k := 5) (n := 149) (by omega) (by omega) ?_
  refine n_putF C w (v := (.ref (r (y + 3)))) nlX10_29 (by omega) (by omega) (Nat.le_of_ble_eq_true rfl) rfl rfl dX10_init_32 (fun H locs w => ?_)
  have w : n_W D b0 r 0 (y) 9 [.ref (r (y + 1)), .ref (r (y + 2)), .ref (r (y + 3)), .null, .null] (y + 6) s H locs := w
  refine lv_aload_n C.1 C.2.1 dX10_init_35 rfl (lv_at hl 0 rfl) ?_
  refine lv_aload_n C.1 C.2.1 dX10_init_36 rfl (lv_at hl 1 rfl) ?_
  refine n_get C (v := .ref (r (23))) flX10_33 (n_old C w.2.2.2 hpre (by omega) (by omega)) rfl dX10_init_37 ?_
  refine n_putF C w (v := (.ref (r (23)))) nlX10_37 (by omega) (by omega) (Nat.le_of_ble_eq_true rfl) rfl rfl dX10_init_40 (fun H locs w => ?_)
  have w : n_W D b0 r 0 (y) 9 [.ref (r (y + 1)), .ref (r (y + 2)), .ref (r (y + 3)), .ref (r (23)), .null] (y + 6) s H locs := w
  refine lv_aload_n C.1 C.2.1 dX10_init_43 rfl (lv_at hl 0 rfl) ?_
  refine lv_aload_n C.1 C.2.1 dX10_init_44 rfl (lv_at hl 1 rfl) ?_
  refine n_get C (v := .ref (r (27))) flX10_38 (n_old C w.2.2.2 hpre (by omega) (by omega)) rfl dX10_init_45 ?_
  refine n_putF C w (v := (.ref (r (27)))) nlX10_42 (by omega) (by omega) (Nat.le_of_ble_eq_true rfl) rfl rfl dX10_init_48 (fun H locs w => ?_)
  have w : n_W D b0 r 0 (y) 9 [.ref (r (y + 1)), .ref (r (y + 2)), .ref (r (y + 3)), .ref (r (23)), .ref (r (27))] (y + 6) s H locs := w
  exact n_ret (n := 5) (ms := 149) C w rfl hy.2.1 (fun j hj => match j, hj with | 0, _ => (mm_v3 hy.2.2.2.2.2.1).symm | 1, _ => (mm_v3 hy.2.2.2.2.2.2.1).symm | 2, _ => (mm_v3 hy.2.2.2.2.2.2.2.1).symm | 3, _ => (mm_v3 (n := 23) hy.2.2.2.2.2.2.2.2.1).symm | 4, _ => (mm_v3 (n := 27) hy.2.2.2.2.2.2.2.2.2).symm | k + 5, h => absurd (show k + 5 < 5 from h) (by omega)) ⟨fun q => absurd q (by decide), fun q => absurd q (by decide)⟩ rfl (by omega) (by decide) (by decide) dX10_init_51
set_option maxHeartbeats 4000000 in
set_option maxRecDepth 100000 in
theorem k_X7_init (l : Launch) (D : va_G) (b0 : Nat) (r : Nat → Nat) (hr : ∀ k, k < 173 → r k = b0 + k) (x : Nat) (hx : mm_ses x) (hx4 : ∃ s, s < 4 ∧ x = 49 + 17 * s) (hx17 : x + 17 < 173) (hx49 : 49 ≤ x) (hn : ∀ i, 1 ≤ i → i < 17 → n_z (x + i)) : n_M l yX7_init cX7_init 3 3 54 16 452 D b0 r [.ref (r (x)), .ref (r (12)), .ref (r (43))] (x) 6 (fun H => n_O D r H 12 8 [.ref (r 13), .ref (r 23), .ref (r 27), .ref (r 31)]) := by
  refine n_enter hr (by decide) rfl (Nat.le_of_ble_eq_true rfl) ?_
  intro p e s m args below meth c C w hsz hpre ls hl
  have C : n_C p c cX7_init 3 RX7 m meth s args D b0 r := C
  have hl : lv_has ls 3 [(0, .ref (r (x))), (1, .ref (r (12))), (2, .ref (r (43)))] := hl
  refine lv_aload_n C.1 C.2.1 dX7_init_0 rfl (lv_at hl 0 rfl) ?_
  refine n_init C hl (in_r6 _ (List.mem_of_getElem? (i := 13) rfl)) n_oi1 n_oi2 ⟨by decide, by decide⟩ dX7_init_1 ?_
  refine lv_aload_n C.1 C.2.1 dX7_init_4 rfl (lv_at hl 0 rfl) ?_
  refine lv_bipush (v := 32) C.1 C.2.1 dX7_init_5 (by decide) ?_
  refine n_newa (atype := .byte) (n := 32) C w (hx.2.2.2.1 0 (by decide)) (hn 1 (by decide) (by decide)) (by simp) n_ac_byte (by decide) ⟨by simp [n_rm], by simp [n_rm]⟩ dX7_init_7 (fun H w => ?_)
  have w : n_W D b0 r 0 (x) 6 [.null, .null, .null, .null, .null, .null, .null, .null, .null, .int 0, .int 0, .int 0] (x + 2) s H [] := w
  refine W.widen (k := 1) (n := 32) (by omega) (by omega) ?_
  refine n_putF C w (v := (.ref (r (x + 1)))) nlX7_9 (by omega) (by omega) (Nat.le_of_ble_eq_true rfl) rfl rfl dX7_init_9 (fun H locs w => ?_)
  have w : n_W D b0 r 0 (x) 6 [.null, .null, .null, .null, .null, .ref (r (x + 1)), .null, .null, .null, .int 0, .int 0, .int 0] (x + 2) s H locs := w
  refine lv_aload_n C.1 C.2.1 dX7_init_12 rfl (lv_at hl 0 rfl) ?_
  refine lv_bipush (v := 32) C.1 C.2.1 dX7_init_13 (by decide) ?_
  refine n_newa (atype := .byte) (n := 32) C w (hx.2.2.2.1 1 (by decide)) (hn 2 (by decide) (by decide)) (by simp) n_ac_byte (by decide) ⟨by simp [n_rm], by simp [n_rm]⟩ dX7_init_15 (fun H w => ?_)
  have w : n_W D b0 r 0 (x) 6 [.null, .null, .null, .null, .null, .ref (r (x + 1)), .null, .null, .null, .int 0, .int 0, .int 0] (x + 3) s H locs := w
  refine W.widen (k := 2) (n := 64) (by omega) (by omega) ?_
  refine n_putF C w (v := (.ref (r (x + 2)))) nlX7_15 (by omega) (by omega) (Nat.le_of_ble_eq_true rfl) rfl rfl dX7_init_17 (fun H locs w => ?_)
  have w : n_W D b0 r 0 (x) 6 [.null, .null, .null, .null, .null, .ref (r (x + 1)), .ref (r (x + 2)), .null, .null, .int 0, .int 0, .int 0] (x + 3) s H locs := w
  refine lv_aload_n C.1 C.2.1 dX7_init_20 rfl (lv_at hl 0 rfl) ?_
  refine lv_bipush (v := 32) C.1 C.2.1 dX7_init_21 (by decide) ?_
  refine n_newa (atype := .byte) (n := 32) C w (hx.2.2.2.1 2 (by decide)) (hn 3 (by decide) (by decide)) (by simp) n_ac_byte (by decide) ⟨by simp [n_rm], by simp [n_rm]⟩ dX7_init_23 (fun H w => ?_)
  have w : n_W D b0 r 0 (x) 6 [.null, .null, .null, .null, .null, .ref (r (x + 1)), .ref (r (x + 2)), .null, .null, .int 0, .int 0, .int 0] (x + 4) s H locs := w
  refine W.widen (k := 3) (n := 96) (by omega) (by omega) ?_
  refine n_putF C w (v := (.ref (r (x + 3)))) nlX7_18 (by omega) (by omega) (Nat.le_of_ble_eq_true rfl) rfl rfl dX7_init_25 (fun H locs w => ?_)
  have w : n_W D b0 r 0 (x) 6 [.null, .null, .null, .null, .null, .ref (r (x + 1)), .ref (r (x + 2)), .ref (r (x + 3)), .null, .int 0, .int 0, .int 0] (x + 4) s H locs := w
  refine lv_aload_n C.1 C.2.1 dX7_init_28 rfl (lv_at hl 0 rfl) ?_
  refine lv_bipush (v := 32) C.1 C.2.1 dX7_init_29 (by decide) ?_
  refine n_newa (atype := .byte) (n := 32) C w (hx.2.2.2.1 3 (by decide)) (hn 4 (by decide) (by decide)) (by simp) n_ac_byte (by decide) ⟨by simp [n_rm], by simp [n_rm]⟩ dX7_init_31 (fun H w => ?_)
  have w : n_W D b0 r 0 (x) 6 [.null, .null, .null, .null, .null, .ref (r (x + 1)), .ref (r (x + 2)), .ref (r (x + 3)), .null, .int 0, .int 0, .int 0] (x + 5) s H locs := w
  refine W.widen (k := 4) (n := 128) (by omega) (by omega) ?_
  refine n_putF C w (v := (.ref (r (x + 4)))) nlX7_21 (by omega) (by omega) (Nat.le_of_ble_eq_true rfl) rfl rfl dX7_init_33 (fun H locs w => ?_)
  have w : n_W D b0 r 0 (x) 6 [.null, .null, .null, .null, .null, .ref (r (x + 1)), .ref (r (x + 2)), .ref (r (x + 3)), .ref (r (x + 4)), .int 0, .int 0, .int 0] (x + 5) s H locs := w
  refine lv_aload_n C.1 C.2.1 dX7_init_36 rfl (lv_at hl 0 rfl) ?_
  refine lv_iconst (v := 0) C.1 C.2.1 dX7_init_37 (by decide) ?_
  refine n_put C w (v := (.int 0)) flX7_24w (by omega) (by omega) (Nat.le_of_ble_eq_true rfl) (by decide) (by decide) dX7_init_38 (fun H locs w => ?_)
  have w : n_W D b0 r 0 (x) 6 [.null, .null, .null, .null, .null, .ref (r (x + 1)), .ref (r (x + 2)), .ref (r (x + 3)), .ref (r (x + 4)), .int 0, .int 0, .int 0] (x + 5) s H locs := w
  refine lv_aload_n C.1 C.2.1 dX7_init_41 rfl (lv_at hl 0 rfl) ?_
  refine lv_iconst (v := (-1)) C.1 C.2.1 dX7_init_42 (by decide) ?_
  refine n_put C w (v := (.int (-1))) flX7_28w (by omega) (by omega) (Nat.le_of_ble_eq_true rfl) (by decide) (by decide) dX7_init_43 (fun H locs w => ?_)
  have w : n_W D b0 r 0 (x) 6 [.null, .null, .null, .null, .null, .ref (r (x + 1)), .ref (r (x + 2)), .ref (r (x + 3)), .ref (r (x + 4)), .int 0, .int (-1), .int 0] (x + 5) s H locs := w
  refine lv_aload_n C.1 C.2.1 dX7_init_46 rfl (lv_at hl 0 rfl) ?_
  refine lv_iconst (v := 0) C.1 C.2.1 dX7_init_47 (by decide) ?_
  refine n_put C w (v := (.int 0)) flX7_32w (by omega) (by omega) (Nat.le_of_ble_eq_true rfl) (by decide) (by decide) dX7_init_48 (fun H locs w => ?_)
  have w : n_W D b0 r 0 (x) 6 [.null, .null, .null, .null, .null, .ref (r (x + 1)), .ref (r (x + 2)), .ref (r (x + 3)), .ref (r (x + 4)), .int 0, .int (-1), .int 0] (x + 5) s H locs := w
  refine lv_aload_n C.1 C.2.1 dX7_init_51 rfl (lv_at hl 0 rfl) ?_
  refine lv_aload_n C.1 C.2.1 dX7_init_52 rfl (lv_at hl 1 rfl) ?_
  refine n_get C (v := .ref (r (13))) flX7_35 (n_old C w.2.2.2 hpre (by omega) (by omega)) rfl dX7_init_53 ?_
  refine n_putF C w (v := (.ref (r (13)))) nlX7_41 (by omega) (by omega) (Nat.le_of_ble_eq_true rfl) rfl rfl dX7_init_56 (fun H locs w => ?_)
  have w : n_W D b0 r 0 (x) 6 [.ref (r (13)), .null, .null, .null, .null, .ref (r (x + 1)), .ref (r (x + 2)), .ref (r (x + 3)), .ref (r (x + 4)), .int 0, .int (-1), .int 0] (x + 5) s H locs := w
  refine lv_aload_n C.1 C.2.1 dX7_init_59 rfl (lv_at hl 0 rfl) ?_
  refine n_new (ci2 := 9) (N := 5) C w nk10 rfl rfl (in_r6 _ (List.mem_of_getElem? (i := 23) rfl)) (by omega) ⟨by simp [n_rm], by simp [n_rm]⟩ dX7_init_60 (fun H w => ?_)
  have w : n_Y D b0 r 0 (x) 6 [.ref (r (13)), .null, .null, .null, .null, .ref (r (x + 1)), .ref (r (x + 2)), .ref (r (x + 3)), .ref (r (x + 4)), .int 0, .int (-1), .int 0] (x + 5) 9 s H locs := w
  refine W.widen (k := 5) (n := 133) (by omega) (by omega) ?_
  refine lv_dup C.1 C.2.1 dX7_init_63 rfl ?_
  refine lv_aload_n C.1 C.2.1 dX7_init_64 rfl (lv_at hl 1 rfl) ?_
  refine n_call (As := [.ref (r (12))]) (rest := [.ref (r (x + 5)), .ref (r (x))]) (na := 1) C w hl (by omega) (by omega) (k_X10_init l D b0 r hr (x + 5) hx.2.2.2.2.1 (by omega) (by omega) (fun i hi => by rw [Nat.add_assoc]; exact hn (5 + i) (by omega) (by omega))) (n_old C w.2.2.2.1 hpre (by omega) (by omega)) (in_r7 _ (List.mem_of_getElem? (i := 6) rfl)) (in_r5 _ (List.mem_of_getElem? (i := 11) rfl)) (in_r2 _ (List.mem_of_getElem? (i := 4) rfl)) (in_r5 _ (List.mem_of_getElem? (i := 12) rfl)) (by decide +kernel) rfl rfl rfl (by simp [Value.category]) ⟨by decide, by decide⟩ ⟨by simp [n_rm], by simp [n_rm]⟩ dX7_init_65 (fun H locs w => ?_)
  have w : n_W D b0 r 0 (x) 6 [.ref (r (13)), .null, .null, .null, .null, .ref (r (x + 1)), .ref (r (x + 2)), .ref (r (x + 3)), .ref (r (x + 4)), .int 0, .int (-1), .int 0] (x + 11) s H locs := w
  refine W.widen (k := 10) (n := 282) (by omega) (by omega) ?_
  refine n_putF C w (v := (.ref (r (x + 5)))) nlX7_47 (by omega) (by omega) (Nat.le_of_ble_eq_true rfl) rfl rfl dX7_init_68 (fun H locs w => ?_)
  have w : n_W D b0 r 0 (x) 6 [.ref (r (13)), .ref (r (x + 5)), .null, .null, .null, .ref (r (x + 1)), .ref (r (x + 2)), .ref (r (x + 3)), .ref (r (x + 4)), .int 0, .int (-1), .int 0] (x + 11) s H locs := w
  refine lv_aload_n C.1 C.2.1 dX7_init_71 rfl (lv_at hl 0 rfl) ?_
  refine lv_aload_n C.1 C.2.1 dX7_init_72 rfl (lv_at hl 2 rfl) ?_
  refine n_putF C w (v := (.ref (r (43)))) nlX7_51 (by omega) (by omega) (Nat.le_of_ble_eq_true rfl) rfl rfl dX7_init_73 (fun H locs w => ?_)
  have w : n_W D b0 r 0 (x) 6 [.ref (r (13)), .ref (r (x + 5)), .ref (r (43)), .null, .null, .ref (r (x + 1)), .ref (r (x + 2)), .ref (r (x + 3)), .ref (r (x + 4)), .int 0, .int (-1), .int 0] (x + 11) s H locs := w
  refine lv_aload_n C.1 C.2.1 dX7_init_76 rfl (lv_at hl 0 rfl) ?_
  refine n_new (ci2 := 2) (N := 5) C w nk3 rfl rfl (in_r7 _ (List.mem_of_getElem? (i := 2) rfl)) (by omega) ⟨by simp [n_rm], by simp [n_rm]⟩ dX7_init_77 (fun H w => ?_)
  have w : n_Y D b0 r 0 (x) 6 [.ref (r (13)), .ref (r (x + 5)), .ref (r (43)), .null, .null, .ref (r (x + 1)), .ref (r (x + 2)), .ref (r (x + 3)), .ref (r (x + 4)), .int 0, .int (-1), .int 0] (x + 11) 2 s H locs := w
  refine W.widen (k := 11) (n := 287) (by omega) (by omega) ?_
  refine lv_dup C.1 C.2.1 dX7_init_80 rfl ?_
  refine lv_aload_n C.1 C.2.1 dX7_init_81 rfl (lv_at hl 1 rfl) ?_
  refine n_get C (v := .ref (r (31))) flX7_56 (n_old C w.2.2.2.1 hpre (by omega) (by omega)) rfl dX7_init_82 ?_
  refine n_call (As := [.ref (r (31))]) (rest := [.ref (r (x + 11)), .ref (r (x))]) (na := 1) C w hl (by omega) (by omega) (k_X3_init l D b0 r hr (x + 11) hx.2.2.2.2.2.1 (by omega) (by omega) (fun i hi => by rw [Nat.add_assoc]; exact hn (11 + i) (by omega) (by omega))) trivial (in_r7 _ (List.mem_of_getElem? (i := 7) rfl)) (in_r6 _ (List.mem_of_getElem? (i := 2) rfl)) (in_r5 _ (List.mem_of_getElem? (i := 18) rfl)) (in_r6 _ (List.mem_of_getElem? (i := 3) rfl)) (by decide +kernel) rfl rfl rfl (by simp [Value.category]) ⟨by decide, by decide⟩ ⟨by simp [n_rm], by simp [n_rm]⟩ dX7_init_85 (fun H locs w => ?_)
  have w : n_W D b0 r 0 (x) 6 [.ref (r (13)), .ref (r (x + 5)), .ref (r (43)), .null, .null, .ref (r (x + 1)), .ref (r (x + 2)), .ref (r (x + 3)), .ref (r (x + 4)), .int 0, .int (-1), .int 0] (x + 14) s H locs := w
  refine W.widen (k := 13) (n := 367) (by omega) (by omega) ?_
  refine n_putF C w (v := (.ref (r (x + 11)))) nlX7_63 (by omega) (by omega) (Nat.le_of_ble_eq_true rfl) rfl rfl dX7_init_88 (fun H locs w => ?_)
  have w : n_W D b0 r 0 (x) 6 [.ref (r (13)), .ref (r (x + 5)), .ref (r (43)), .ref (r (x + 11)), .null, .ref (r (x + 1)), .ref (r (x + 2)), .ref (r (x + 3)), .ref (r (x + 4)), .int 0, .int (-1), .int 0] (x + 14) s H locs := w
  refine lv_aload_n C.1 C.2.1 dX7_init_91 rfl (lv_at hl 0 rfl) ?_
  refine n_new (ci2 := 2) (N := 5) C w nk3 rfl rfl (in_r7 _ (List.mem_of_getElem? (i := 2) rfl)) (by omega) ⟨by simp [n_rm], by simp [n_rm]⟩ dX7_init_92 (fun H w => ?_)
  have w : n_Y D b0 r 0 (x) 6 [.ref (r (13)), .ref (r (x + 5)), .ref (r (43)), .ref (r (x + 11)), .null, .ref (r (x + 1)), .ref (r (x + 2)), .ref (r (x + 3)), .ref (r (x + 4)), .int 0, .int (-1), .int 0] (x + 14) 2 s H locs := w
  refine W.widen (k := 14) (n := 372) (by omega) (by omega) ?_
  refine lv_dup C.1 C.2.1 dX7_init_95 rfl ?_
  refine lv_aload_n C.1 C.2.1 dX7_init_96 rfl (lv_at hl 1 rfl) ?_
  refine n_get C (v := .ref (r (31))) flX7_56 (n_old C w.2.2.2.1 hpre (by omega) (by omega)) rfl dX7_init_97 ?_
  refine n_call (As := [.ref (r (31))]) (rest := [.ref (r (x + 14)), .ref (r (x))]) (na := 1) C w hl (by omega) (by omega) (k_X3_init l D b0 r hr (x + 14) hx.2.2.2.2.2.2.1 (by omega) (by omega) (fun i hi => by rw [Nat.add_assoc]; exact hn (14 + i) (by omega) (by omega))) trivial (in_r7 _ (List.mem_of_getElem? (i := 7) rfl)) (in_r6 _ (List.mem_of_getElem? (i := 2) rfl)) (in_r5 _ (List.mem_of_getElem? (i := 18) rfl)) (in_r6 _ (List.mem_of_getElem? (i := 3) rfl)) (by decide +kernel) rfl rfl rfl (by simp [Value.category]) ⟨by decide, by decide⟩ ⟨by simp [n_rm], by simp [n_rm]⟩ dX7_init_100 (fun H locs w => ?_)
  have w : n_W D b0 r 0 (x) 6 [.ref (r (13)), .ref (r (x + 5)), .ref (r (43)), .ref (r (x + 11)), .null, .ref (r (x + 1)), .ref (r (x + 2)), .ref (r (x + 3)), .ref (r (x + 4)), .int 0, .int (-1), .int 0] (x + 17) s H locs := w
  refine W.widen (k := 16) (n := 452) (by omega) (by omega) ?_
  refine n_putF C w (v := (.ref (r (x + 14)))) nlX7_67 (by omega) (by omega) (Nat.le_of_ble_eq_true rfl) rfl rfl dX7_init_103 (fun H locs w => ?_)
  have w : n_W D b0 r 0 (x) 6 [.ref (r (13)), .ref (r (x + 5)), .ref (r (43)), .ref (r (x + 11)), .ref (r (x + 14)), .ref (r (x + 1)), .ref (r (x + 2)), .ref (r (x + 3)), .ref (r (x + 4)), .int 0, .int (-1), .int 0] (x + 17) s H locs := w
  exact n_ret (n := 16) (ms := 452) C w rfl hx.2.2.1 (fun j hj => match j, hj with | 0, _ => (mm_v3 (n := 13) hx.2.2.2.2.2.2.2.1).symm | 1, _ => (mm_v3 hx.2.2.2.2.2.2.2.2.1).symm | 2, _ => (mm_v3 (n := 43) hx.2.2.2.2.2.2.2.2.2.1).symm | 3, _ => (mm_v3 hx.2.2.2.2.2.2.2.2.2.2.1).symm | 4, _ => (mm_v3 hx.2.2.2.2.2.2.2.2.2.2.2.1).symm | 5, _ => (mm_v3 hx.2.2.2.2.2.2.2.2.2.2.2.2.1).symm | 6, _ => (mm_v3 hx.2.2.2.2.2.2.2.2.2.2.2.2.2.1).symm | 7, _ => (mm_v3 hx.2.2.2.2.2.2.2.2.2.2.2.2.2.2.1).symm | 8, _ => (mm_v3 hx.2.2.2.2.2.2.2.2.2.2.2.2.2.2.2.1).symm | 9, _ => ((mm_v0 hx.2.2.2.2.2.2.2.2.2.2.2.2.2.2.2.2.1).trans (congrArg Value.int (n_s0 hx4 9 (by decide)))).symm | 10, _ => ((mm_v0 hx.2.2.2.2.2.2.2.2.2.2.2.2.2.2.2.2.2.1).trans (congrArg Value.int (n_s1 hx4))).symm | 11, _ => ((mm_v0 hx.2.2.2.2.2.2.2.2.2.2.2.2.2.2.2.2.2.2).trans (congrArg Value.int (n_s0 hx4 11 (by decide)))).symm | k + 12, h => absurd (show k + 12 < 12 from h) (by omega)) ⟨fun q => absurd q (by decide), fun _ => Or.inl (n_s0 hx4 9 (by decide))⟩ rfl (by omega) (by decide) (by decide) dX7_init_106

set_option maxHeartbeats 4000000 in
set_option maxRecDepth 100000 in
theorem k_X11_init (l : Launch) (D : va_G) (b0 : Nat) (r : Nat → Nat) (hr : ∀ k, k < 173 → r k = b0 + k) : n_M l yX11_init cX11_init 3 4 76 116 4851 D b0 r [.ref (r (0))] (0) 10 (fun _ => True) := by
  refine n_enter hr (by decide) rfl (Nat.le_of_ble_eq_true rfl) ?_
  intro p e s m args below meth c C w hsz hpre ls hl
  have C : n_C p c cX11_init 3 RX11 m meth s args D b0 r := C
  have hl : lv_has ls 3 [(0, .ref (r (0)))] := hl
  refine lv_aload_n C.1 C.2.1 dX11_init_0 rfl (lv_at hl 0 rfl) ?_
  refine n_init C hl (in_r1 _ (List.mem_of_getElem? (i := 10) rfl)) n_oi1 n_oi2 ⟨by decide, by decide⟩ dX11_init_1 ?_
  refine lv_aload_n C.1 C.2.1 dX11_init_4 rfl (lv_at hl 0 rfl) ?_
  refine lv_sipush (v := 1000) C.1 C.2.1 dX11_init_5 (by decide) ?_
  refine n_newa (atype := .byte) (n := 1000) C w rfl (by unfold n_z; decide) (by simp) n_ac_byte (by decide) ⟨by simp [n_rm], by simp [n_rm]⟩ dX11_init_8 (fun H w => ?_)
  have w : n_W D b0 r 0 (0) 10 [.null, .int 0, .null, .int 0, .null, .null, .null] (2) s H [] := w
  refine W.widen (k := 1) (n := 1000) (by omega) (by omega) ?_
  refine n_putF C w (v := (.ref (r (1)))) nlX11_9 (by decide) (by decide) (Nat.le_of_ble_eq_true rfl) rfl rfl dX11_init_10 (fun H locs w => ?_)
  have w : n_W D b0 r 0 (0) 10 [.ref (r (1)), .int 0, .null, .int 0, .null, .null, .null] (2) s H locs := w
  refine lv_aload_n C.1 C.2.1 dX11_init_13 rfl (lv_at hl 0 rfl) ?_
  refine lv_iconst (v := 0) C.1 C.2.1 dX11_init_14 (by decide) ?_
  refine n_put C w (v := (.int 0)) flX11_13w (by decide) (by decide) (Nat.le_of_ble_eq_true rfl) (by decide) (by decide) dX11_init_15 (fun H locs w => ?_)
  have w : n_W D b0 r 0 (0) 10 [.ref (r (1)), .int 0, .null, .int 0, .null, .null, .null] (2) s H locs := w
  refine lv_aload_n C.1 C.2.1 dX11_init_18 rfl (lv_at hl 0 rfl) ?_
  refine lv_sipush (v := 1000) C.1 C.2.1 dX11_init_19 (by decide) ?_
  refine n_newa (atype := .byte) (n := 1000) C w rfl (by unfold n_z; decide) (by simp) n_ac_byte (by decide) ⟨by simp [n_rm], by simp [n_rm]⟩ dX11_init_22 (fun H w => ?_)
  have w : n_W D b0 r 0 (0) 10 [.ref (r (1)), .int 0, .null, .int 0, .null, .null, .null] (3) s H locs := w
  refine W.widen (k := 2) (n := 2000) (by omega) (by omega) ?_
  refine n_putF C w (v := (.ref (r (2)))) nlX11_17 (by decide) (by decide) (Nat.le_of_ble_eq_true rfl) rfl rfl dX11_init_24 (fun H locs w => ?_)
  have w : n_W D b0 r 0 (0) 10 [.ref (r (1)), .int 0, .ref (r (2)), .int 0, .null, .null, .null] (3) s H locs := w
  refine lv_aload_n C.1 C.2.1 dX11_init_27 rfl (lv_at hl 0 rfl) ?_
  refine lv_iconst (v := 0) C.1 C.2.1 dX11_init_28 (by decide) ?_
  refine n_put C w (v := (.int 0)) flX11_20w (by decide) (by decide) (Nat.le_of_ble_eq_true rfl) (by decide) (by decide) dX11_init_29 (fun H locs w => ?_)
  have w : n_W D b0 r 0 (0) 10 [.ref (r (1)), .int 0, .ref (r (2)), .int 0, .null, .null, .null] (3) s H locs := w
  refine lv_aload_n C.1 C.2.1 dX11_init_32 rfl (lv_at hl 0 rfl) ?_
  refine lv_bipush (v := 8) C.1 C.2.1 dX11_init_33 (by decide) ?_
  refine lv_bipush (v := 32) C.1 C.2.1 dX11_init_35 (by decide) ?_
  refine n_mna C w (in_r1 _ (List.mem_of_getElem? (i := 18) rfl)) ⟨by simp [n_rm], by simp [n_rm]⟩ dX11_init_37 (fun H w => ?_)
  have w : n_W D b0 r 0 (0) 10 [.ref (r (1)), .int 0, .ref (r (2)), .int 0, .null, .null, .null] (12) s H locs := w
  refine W.widen (k := 11) (n := 2264) (by omega) (by omega) ?_
  refine n_putF C w (v := (.ref (r (3)))) nlX11_25 (by decide) (by decide) (Nat.le_of_ble_eq_true rfl) rfl rfl dX11_init_41 (fun H locs w => ?_)
  have w : n_W D b0 r 0 (0) 10 [.ref (r (1)), .int 0, .ref (r (2)), .int 0, .ref (r (3)), .null, .null] (12) s H locs := w
  refine lv_aload_n C.1 C.2.1 dX11_init_44 rfl (lv_at hl 0 rfl) ?_
  refine n_new (ci2 := 8) (N := 4) C w nk9 rfl rfl (in_r1 _ (List.mem_of_getElem? (i := 20) rfl)) (by decide) ⟨by simp [n_rm], by simp [n_rm]⟩ dX11_init_45 (fun H w => ?_)
  have w : n_Y D b0 r 0 (0) 10 [.ref (r (1)), .int 0, .ref (r (2)), .int 0, .ref (r (3)), .null, .null] (12) 8 s H locs := w
  refine W.widen (k := 12) (n := 2268) (by omega) (by omega) ?_
  refine lv_dup C.1 C.2.1 dX11_init_48 rfl ?_
  refine n_callN (As := []) (rest := [.ref (r (12)), .ref (r (0))]) (na := 0) C w hl (by decide) (by decide) (k_X9_init l D b0 r hr) trivial C.2.2.2.2.2.2.2.2.2.2.1 (in_r2 _ (List.mem_of_getElem? (i := 7) rfl)) (in_r1 _ (List.mem_of_getElem? (i := 22) rfl)) (in_r2 _ (List.mem_of_getElem? (i := 8) rfl)) (by decide +kernel) rfl rfl rfl (by simp [Value.category]) ⟨by decide, by decide⟩ ⟨by simp [n_rm], by simp [n_rm]⟩ dX11_init_49 (fun H locs w => ?_)
  have w : n_W D b0 r 0 (0) 10 [.ref (r (1)), .int 0, .ref (r (2)), .int 0, .ref (r (3)), .null, .null] (42) s H locs := w
  refine W.widen (k := 41) (n := 2837) (by omega) (by omega) ?_
  refine n_putF C w (v := (.ref (r (12)))) nlX11_31 (by decide) (by decide) (Nat.le_of_ble_eq_true rfl) rfl rfl dX11_init_52 (fun H locs w => ?_)
  have w : n_W D b0 r 0 (0) 10 [.ref (r (1)), .int 0, .ref (r (2)), .int 0, .ref (r (3)), .ref (r (12)), .null] (42) s H locs := w
  refine lv_aload_n C.1 C.2.1 dX11_init_55 rfl (lv_at hl 0 rfl) ?_
  refine lv_iconst (v := 4) C.1 C.2.1 dX11_init_56 (by decide) ?_
  refine n_anew C w (in_r2 _ (List.mem_of_getElem? (i := 0) rfl)) ⟨by simp [n_rm], by simp [n_rm]⟩ dX11_init_57 (fun H w => ?_)
  have w : n_W D b0 r 0 (0) 10 [.ref (r (1)), .int 0, .ref (r (2)), .int 0, .ref (r (3)), .ref (r (12)), .null] (43) s H locs := w
  refine W.widen (k := 42) (n := 2841) (by omega) (by omega) ?_
  refine n_putF C w (v := (.ref (r (42)))) nlX11_37 (by decide) (by decide) (Nat.le_of_ble_eq_true rfl) rfl rfl dX11_init_60 (fun H locs w => ?_)
  have w : n_W D b0 r 0 (0) 10 [.ref (r (1)), .int 0, .ref (r (2)), .int 0, .ref (r (3)), .ref (r (12)), .ref (r (42))] (43) s H locs := w
  refine n_new (ci2 := 9) (N := 5) C w nk10 rfl rfl (in_r2 _ (List.mem_of_getElem? (i := 2) rfl)) (by decide) ⟨by simp [n_rm], by simp [n_rm]⟩ dX11_init_63 (fun H w => ?_)
  have w : n_Y D b0 r 0 (0) 10 [.ref (r (1)), .int 0, .ref (r (2)), .int 0, .ref (r (3)), .ref (r (12)), .ref (r (42))] (43) 9 s H locs := w
  refine W.widen (k := 43) (n := 2846) (by omega) (by omega) ?_
  refine lv_dup C.1 C.2.1 dX11_init_66 rfl ?_
  refine lv_aload_n C.1 C.2.1 dX11_init_67 rfl (lv_at hl 0 rfl) ?_
  refine n_get C (v := .ref (r (12))) flX11_31 w.2.1 rfl dX11_init_68 ?_
  refine n_call (As := [.ref (r (12))]) (rest := [.ref (r (43))]) (na := 1) C w hl (by decide) (by decide) (k_X10_init l D b0 r hr 43 mm_spare (by decide) (by decide) (fun i hi => by unfold n_z; omega)) (n_sub12 ((w.2.2.1 12 (by decide) (by decide)).2 (by decide))) (in_r5 _ (List.mem_of_getElem? (i := 10) rfl)) (in_r5 _ (List.mem_of_getElem? (i := 11) rfl)) (in_r2 _ (List.mem_of_getElem? (i := 4) rfl)) (in_r5 _ (List.mem_of_getElem? (i := 12) rfl)) (by decide +kernel) rfl rfl rfl (by simp [Value.category]) ⟨by decide, by decide⟩ ⟨by simp [n_rm], by simp [n_rm]⟩ dX11_init_71 (fun H locs w => ?_)
  have w : n_W D b0 r 0 (0) 10 [.ref (r (1)), .int 0, .ref (r (2)), .int 0, .ref (r (3)), .ref (r (12)), .ref (r (42))] (49) s H locs := w
  refine W.widen (k := 48) (n := 2995) (by omega) (by omega) ?_
  refine lv_astore_n (lv' := [(1, .ref (r (43))), (0, .ref (r (0)))]) C.1 C.2.1 dX11_init_74 rfl hl (by decide) rfl (fun ls hl => ?_)
  refine lv_iconst (v := 0) C.1 C.2.1 dX11_init_75 (by decide) ?_
  refine lv_istore_n (lv' := [(2, .int 0), (1, .ref (r (43))), (0, .ref (r (0)))]) C.1 C.2.1 dX11_init_76 rfl hl (by decide) rfl (fun ls hl => ?_)
  refine lv_iload_n C.1 C.2.1 dX11_init_77 rfl (lv_at hl 0 rfl) ?_
  refine lv_iconst (v := 4) C.1 C.2.1 dX11_init_78 (by decide) ?_
  refine lv_icmp_ge (tgt := 106) C.1 C.2.1 dX11_init_79 (by decide) (fun q => absurd q (by decide)) (fun _ => ?_)
  refine lv_aload_n C.1 C.2.1 dX11_init_82 rfl (lv_at hl 2 rfl) ?_
  refine n_get C (v := .ref (r (42))) flX11_37 w.2.1 rfl dX11_init_83 ?_
  refine lv_iload_n C.1 C.2.1 dX11_init_86 rfl (lv_at hl 0 rfl) ?_
  refine n_new (ci2 := 6) (N := 12) C w nk7 rfl rfl (in_r2 _ (List.mem_of_getElem? (i := 0) rfl)) (by decide) ⟨by simp [n_rm], by simp [n_rm]⟩ dX11_init_87 (fun H w => ?_)
  have w : n_Y D b0 r 0 (0) 10 [.ref (r (1)), .int 0, .ref (r (2)), .int 0, .ref (r (3)), .ref (r (12)), .ref (r (42))] (49) 6 s H locs := w
  refine W.widen (k := 49) (n := 3007) (by omega) (by omega) ?_
  refine lv_dup C.1 C.2.1 dX11_init_90 rfl ?_
  refine lv_aload_n C.1 C.2.1 dX11_init_91 rfl (lv_at hl 2 rfl) ?_
  refine n_get C (v := .ref (r (12))) flX11_31 w.2.1 rfl dX11_init_92 ?_
  refine lv_aload_n C.1 C.2.1 dX11_init_95 rfl (lv_at hl 1 rfl) ?_
  refine n_call (As := [.ref (r (12)), .ref (r (43))]) (rest := [.ref (r (49)), .int 0, .ref (r (42))]) (na := 2) C w hl (by decide) (by decide) (k_X7_init l D b0 r hr 49 (mm_ses_of 0 (by decide)) ⟨0, by decide, rfl⟩ (by decide) (by decide) (fun i h1 h2 => by unfold n_z; omega)) (n_sub12 ((w.2.2.1 12 (by decide) (by decide)).2 (by decide))) (in_r6 _ (List.mem_of_getElem? (i := 10) rfl)) (in_r6 _ (List.mem_of_getElem? (i := 11) rfl)) (in_r2 _ (List.mem_of_getElem? (i := 6) rfl)) (in_r6 _ (List.mem_of_getElem? (i := 12) rfl)) (by decide +kernel) rfl rfl rfl (by simp [Value.category]) ⟨by decide, by decide⟩ ⟨by simp [n_rm], by simp [n_rm]⟩ dX11_init_96 (fun H locs w => ?_)
  have w : n_W D b0 r 0 (0) 10 [.ref (r (1)), .int 0, .ref (r (2)), .int 0, .ref (r (3)), .ref (r (12)), .ref (r (42))] (66) s H locs := w
  refine W.widen (k := 65) (n := 3459) (by omega) (by omega) ?_
  refine n_aast (q := 0) C w (by decide) dX11_init_99 (fun H locs w => ?_)
  have w : n_W D b0 r 1 (0) 10 [.ref (r (1)), .int 0, .ref (r (2)), .int 0, .ref (r (3)), .ref (r (12)), .ref (r (42))] (66) s H locs := w
  refine lv_iinc (v := 1) (lv' := [(2, .int 1), (1, .ref (r (43))), (0, .ref (r (0)))]) C.1 C.2.1 dX11_init_100 hl (k := 0) rfl (by decide) (by decide) rfl (fun ls hl => ?_)
  refine lv_goto (tgt := 77) C.1 C.2.1 dX11_init_103 (by decide) ?_
  refine lv_iload_n C.1 C.2.1 dX11_init_77 rfl (lv_at hl 0 rfl) ?_
  refine lv_iconst (v := 4) C.1 C.2.1 dX11_init_78 (by decide) ?_
  refine lv_icmp_ge (tgt := 106) C.1 C.2.1 dX11_init_79 (by decide) (fun q => absurd q (by decide)) (fun _ => ?_)
  refine lv_aload_n C.1 C.2.1 dX11_init_82 rfl (lv_at hl 2 rfl) ?_
  refine n_get C (v := .ref (r (42))) flX11_37 w.2.1 rfl dX11_init_83 ?_
  refine lv_iload_n C.1 C.2.1 dX11_init_86 rfl (lv_at hl 0 rfl) ?_
  refine n_new (ci2 := 6) (N := 12) C w nk7 rfl rfl (in_r2 _ (List.mem_of_getElem? (i := 0) rfl)) (by decide) ⟨by simp [n_rm], by simp [n_rm]⟩ dX11_init_87 (fun H w => ?_)
  have w : n_Y D b0 r 1 (0) 10 [.ref (r (1)), .int 0, .ref (r (2)), .int 0, .ref (r (3)), .ref (r (12)), .ref (r (42))] (66) 6 s H locs := w
  refine W.widen (k := 66) (n := 3471) (by omega) (by omega) ?_
  refine lv_dup C.1 C.2.1 dX11_init_90 rfl ?_
  refine lv_aload_n C.1 C.2.1 dX11_init_91 rfl (lv_at hl 2 rfl) ?_
  refine n_get C (v := .ref (r (12))) flX11_31 w.2.1 rfl dX11_init_92 ?_
  refine lv_aload_n C.1 C.2.1 dX11_init_95 rfl (lv_at hl 1 rfl) ?_
  refine n_call (As := [.ref (r (12)), .ref (r (43))]) (rest := [.ref (r (66)), .int 1, .ref (r (42))]) (na := 2) C w hl (by decide) (by decide) (k_X7_init l D b0 r hr 66 (mm_ses_of 1 (by decide)) ⟨1, by decide, rfl⟩ (by decide) (by decide) (fun i h1 h2 => by unfold n_z; omega)) (n_sub12 ((w.2.2.1 12 (by decide) (by decide)).2 (by decide))) (in_r6 _ (List.mem_of_getElem? (i := 10) rfl)) (in_r6 _ (List.mem_of_getElem? (i := 11) rfl)) (in_r2 _ (List.mem_of_getElem? (i := 6) rfl)) (in_r6 _ (List.mem_of_getElem? (i := 12) rfl)) (by decide +kernel) rfl rfl rfl (by simp [Value.category]) ⟨by decide, by decide⟩ ⟨by simp [n_rm], by simp [n_rm]⟩ dX11_init_96 (fun H locs w => ?_)
  have w : n_W D b0 r 1 (0) 10 [.ref (r (1)), .int 0, .ref (r (2)), .int 0, .ref (r (3)), .ref (r (12)), .ref (r (42))] (83) s H locs := w
  refine W.widen (k := 82) (n := 3923) (by omega) (by omega) ?_
  refine n_aast (q := 1) C w (by decide) dX11_init_99 (fun H locs w => ?_)
  have w : n_W D b0 r 2 (0) 10 [.ref (r (1)), .int 0, .ref (r (2)), .int 0, .ref (r (3)), .ref (r (12)), .ref (r (42))] (83) s H locs := w
  refine lv_iinc (v := 2) (lv' := [(2, .int 2), (1, .ref (r (43))), (0, .ref (r (0)))]) C.1 C.2.1 dX11_init_100 hl (k := 0) rfl (by decide) (by decide) rfl (fun ls hl => ?_)
  refine lv_goto (tgt := 77) C.1 C.2.1 dX11_init_103 (by decide) ?_
  refine lv_iload_n C.1 C.2.1 dX11_init_77 rfl (lv_at hl 0 rfl) ?_
  refine lv_iconst (v := 4) C.1 C.2.1 dX11_init_78 (by decide) ?_
  refine lv_icmp_ge (tgt := 106) C.1 C.2.1 dX11_init_79 (by decide) (fun q => absurd q (by decide)) (fun _ => ?_)
  refine lv_aload_n C.1 C.2.1 dX11_init_82 rfl (lv_at hl 2 rfl) ?_
  refine n_get C (v := .ref (r (42))) flX11_37 w.2.1 rfl dX11_init_83 ?_
  refine lv_iload_n C.1 C.2.1 dX11_init_86 rfl (lv_at hl 0 rfl) ?_
  refine n_new (ci2 := 6) (N := 12) C w nk7 rfl rfl (in_r2 _ (List.mem_of_getElem? (i := 0) rfl)) (by decide) ⟨by simp [n_rm], by simp [n_rm]⟩ dX11_init_87 (fun H w => ?_)
  have w : n_Y D b0 r 2 (0) 10 [.ref (r (1)), .int 0, .ref (r (2)), .int 0, .ref (r (3)), .ref (r (12)), .ref (r (42))] (83) 6 s H locs := w
  refine W.widen (k := 83) (n := 3935) (by omega) (by omega) ?_
  refine lv_dup C.1 C.2.1 dX11_init_90 rfl ?_
  refine lv_aload_n C.1 C.2.1 dX11_init_91 rfl (lv_at hl 2 rfl) ?_
  refine n_get C (v := .ref (r (12))) flX11_31 w.2.1 rfl dX11_init_92 ?_
  refine lv_aload_n C.1 C.2.1 dX11_init_95 rfl (lv_at hl 1 rfl) ?_
  refine n_call (As := [.ref (r (12)), .ref (r (43))]) (rest := [.ref (r (83)), .int 2, .ref (r (42))]) (na := 2) C w hl (by decide) (by decide) (k_X7_init l D b0 r hr 83 (mm_ses_of 2 (by decide)) ⟨2, by decide, rfl⟩ (by decide) (by decide) (fun i h1 h2 => by unfold n_z; omega)) (n_sub12 ((w.2.2.1 12 (by decide) (by decide)).2 (by decide))) (in_r6 _ (List.mem_of_getElem? (i := 10) rfl)) (in_r6 _ (List.mem_of_getElem? (i := 11) rfl)) (in_r2 _ (List.mem_of_getElem? (i := 6) rfl)) (in_r6 _ (List.mem_of_getElem? (i := 12) rfl)) (by decide +kernel) rfl rfl rfl (by simp [Value.category]) ⟨by decide, by decide⟩ ⟨by simp [n_rm], by simp [n_rm]⟩ dX11_init_96 (fun H locs w => ?_)
  have w : n_W D b0 r 2 (0) 10 [.ref (r (1)), .int 0, .ref (r (2)), .int 0, .ref (r (3)), .ref (r (12)), .ref (r (42))] (100) s H locs := w
  refine W.widen (k := 99) (n := 4387) (by omega) (by omega) ?_
  refine n_aast (q := 2) C w (by decide) dX11_init_99 (fun H locs w => ?_)
  have w : n_W D b0 r 3 (0) 10 [.ref (r (1)), .int 0, .ref (r (2)), .int 0, .ref (r (3)), .ref (r (12)), .ref (r (42))] (100) s H locs := w
  refine lv_iinc (v := 3) (lv' := [(2, .int 3), (1, .ref (r (43))), (0, .ref (r (0)))]) C.1 C.2.1 dX11_init_100 hl (k := 0) rfl (by decide) (by decide) rfl (fun ls hl => ?_)
  refine lv_goto (tgt := 77) C.1 C.2.1 dX11_init_103 (by decide) ?_
  refine lv_iload_n C.1 C.2.1 dX11_init_77 rfl (lv_at hl 0 rfl) ?_
  refine lv_iconst (v := 4) C.1 C.2.1 dX11_init_78 (by decide) ?_
  refine lv_icmp_ge (tgt := 106) C.1 C.2.1 dX11_init_79 (by decide) (fun q => absurd q (by decide)) (fun _ => ?_)
  refine lv_aload_n C.1 C.2.1 dX11_init_82 rfl (lv_at hl 2 rfl) ?_
  refine n_get C (v := .ref (r (42))) flX11_37 w.2.1 rfl dX11_init_83 ?_
  refine lv_iload_n C.1 C.2.1 dX11_init_86 rfl (lv_at hl 0 rfl) ?_
  refine n_new (ci2 := 6) (N := 12) C w nk7 rfl rfl (in_r2 _ (List.mem_of_getElem? (i := 0) rfl)) (by decide) ⟨by simp [n_rm], by simp [n_rm]⟩ dX11_init_87 (fun H w => ?_)
  have w : n_Y D b0 r 3 (0) 10 [.ref (r (1)), .int 0, .ref (r (2)), .int 0, .ref (r (3)), .ref (r (12)), .ref (r (42))] (100) 6 s H locs := w
  refine W.widen (k := 100) (n := 4399) (by omega) (by omega) ?_
  refine lv_dup C.1 C.2.1 dX11_init_90 rfl ?_
  refine lv_aload_n C.1 C.2.1 dX11_init_91 rfl (lv_at hl 2 rfl) ?_
  refine n_get C (v := .ref (r (12))) flX11_31 w.2.1 rfl dX11_init_92 ?_
  refine lv_aload_n C.1 C.2.1 dX11_init_95 rfl (lv_at hl 1 rfl) ?_
  refine n_call (As := [.ref (r (12)), .ref (r (43))]) (rest := [.ref (r (100)), .int 3, .ref (r (42))]) (na := 2) C w hl (by decide) (by decide) (k_X7_init l D b0 r hr 100 (mm_ses_of 3 (by decide)) ⟨3, by decide, rfl⟩ (by decide) (by decide) (fun i h1 h2 => by unfold n_z; omega)) (n_sub12 ((w.2.2.1 12 (by decide) (by decide)).2 (by decide))) (in_r6 _ (List.mem_of_getElem? (i := 10) rfl)) (in_r6 _ (List.mem_of_getElem? (i := 11) rfl)) (in_r2 _ (List.mem_of_getElem? (i := 6) rfl)) (in_r6 _ (List.mem_of_getElem? (i := 12) rfl)) (by decide +kernel) rfl rfl rfl (by simp [Value.category]) ⟨by decide, by decide⟩ ⟨by simp [n_rm], by simp [n_rm]⟩ dX11_init_96 (fun H locs w => ?_)
  have w : n_W D b0 r 3 (0) 10 [.ref (r (1)), .int 0, .ref (r (2)), .int 0, .ref (r (3)), .ref (r (12)), .ref (r (42))] (117) s H locs := w
  refine W.widen (k := 116) (n := 4851) (by omega) (by omega) ?_
  refine n_aast (q := 3) C w (by decide) dX11_init_99 (fun H locs w => ?_)
  have w : n_W D b0 r 4 (0) 10 [.ref (r (1)), .int 0, .ref (r (2)), .int 0, .ref (r (3)), .ref (r (12)), .ref (r (42))] (117) s H locs := w
  refine lv_iinc (v := 4) (lv' := [(2, .int 4), (1, .ref (r (43))), (0, .ref (r (0)))]) C.1 C.2.1 dX11_init_100 hl (k := 0) rfl (by decide) (by decide) rfl (fun ls hl => ?_)
  refine lv_goto (tgt := 77) C.1 C.2.1 dX11_init_103 (by decide) ?_
  refine lv_iload_n C.1 C.2.1 dX11_init_77 rfl (lv_at hl 0 rfl) ?_
  refine lv_iconst (v := 4) C.1 C.2.1 dX11_init_78 (by decide) ?_
  refine lv_icmp_ge (tgt := 106) C.1 C.2.1 dX11_init_79 (by decide) (fun _ => ?_) (fun q => absurd (by decide) q)
  exact n_ret (n := 116) (ms := 4851) C w rfl rfl (fun j hj => match j, hj with | 0, _ => rfl | 1, _ => rfl | 2, _ => rfl | 3, _ => rfl | 4, _ => rfl | 5, _ => rfl | 6, _ => rfl | k + 7, h => absurd (show k + 7 < 7 from h) (by omega)) ⟨fun q => absurd q (by decide), fun q => absurd q (by decide)⟩ rfl (by decide) (by decide) (by decide) dX11_init_106

def f_X12_number (k1 : Nat) (p1 : Nat) (M : mm_M) : Int32 :=
  (((((M.1 k1 p1) &&& (255 : Int32)) ||| (((M.1 k1 (p1 + 1)) &&& (255 : Int32)) <<< ((8 : Int32) &&& 31))) ||| (((M.1 k1 (p1 + 2)) &&& (255 : Int32)) <<< ((16 : Int32) &&& 31))) ||| (((M.1 k1 (p1 + 3)) &&& (255 : Int32)) <<< ((24 : Int32) &&& 31)))
set_option maxHeartbeats 4000000 in
set_option maxRecDepth 100000 in
theorem c_X12_number (l : Launch) (D : va_G) (b0 : Nat) (r : Nat → Nat) (M : mm_M) (k1 : Nat) (p1 : Nat) {n1 : Nat} {w1 : Bool} (hk1 : k1 < 181) (hs1 : mm_sh k1 = .inl (.byte, n1, w1)) (hn1 : n1 < 2 ^ 31) (hp1 : p1 + 4 ≤ n1) (hq1 : n1 < 2 ^ 30) : mm_Mi l yX12_number cX12_number 2 .int 0 0 D b0 r [.ref (r (k1)), .int (nI (p1))] M (fun v M' => v = f_X12_number k1 p1 M ∧ M' = M) := by
  refine mm_enter (cc := cX12_number) (nL := 2) (ret := (some .int)) (by decide) (Nat.le_of_ble_eq_true rfl) ?_
  intro p e s m args below meth c C w ls hl
  have hl : lv_has ls 2 [(0, .ref (r (k1))), (1, .int (nI (p1)))] := hl
  refine lv_aload_n C.1 C.2.1 dX12_number_0 rfl (lv_at hl 0 rfl) ?_
  refine lv_iload_n C.1 C.2.1 dX12_number_1 rfl (lv_at hl 1 rfl) ?_
  refine m_bald C w (k := k1) (i := p1) (n := n1) (wr := w1) hk1 hs1 (by omega) hn1 dX12_number_2 ?_
  refine lv_sipush (v := 255) C.1 C.2.1 dX12_number_3 (by decide) ?_
  refine lv_iand C.1 C.2.1 dX12_number_6 ?_
  refine lv_aload_n C.1 C.2.1 dX12_number_7 rfl (lv_at hl 0 rfl) ?_
  refine lv_iload_n C.1 C.2.1 dX12_number_8 rfl (lv_at hl 1 rfl) ?_
  refine lv_iconst (v := 1) C.1 C.2.1 dX12_number_9 (by decide) ?_
  refine lv_iadd C.1 C.2.1 dX12_number_10 ?_
  refine m_i (y := nI (p1 + 1)) (nI_add p1 1) ?_
  refine m_bald C w (k := k1) (i := p1 + 1) (n := n1) (wr := w1) hk1 hs1 (by omega) hn1 dX12_number_11 ?_
  refine lv_sipush (v := 255) C.1 C.2.1 dX12_number_12 (by decide) ?_
  refine lv_iand C.1 C.2.1 dX12_number_15 ?_
  refine lv_bipush (v := 8) C.1 C.2.1 dX12_number_16 (by decide) ?_
  refine lv_ishl C.1 C.2.1 dX12_number_18 ?_
  refine lv_ior C.1 C.2.1 dX12_number_19 ?_
  refine lv_aload_n C.1 C.2.1 dX12_number_20 rfl (lv_at hl 0 rfl) ?_
  refine lv_iload_n C.1 C.2.1 dX12_number_21 rfl (lv_at hl 1 rfl) ?_
  refine lv_iconst (v := 2) C.1 C.2.1 dX12_number_22 (by decide) ?_
  refine lv_iadd C.1 C.2.1 dX12_number_23 ?_
  refine m_i (y := nI (p1 + 2)) (nI_add p1 2) ?_
  refine m_bald C w (k := k1) (i := p1 + 2) (n := n1) (wr := w1) hk1 hs1 (by omega) hn1 dX12_number_24 ?_
  refine lv_sipush (v := 255) C.1 C.2.1 dX12_number_25 (by decide) ?_
  refine lv_iand C.1 C.2.1 dX12_number_28 ?_
  refine lv_bipush (v := 16) C.1 C.2.1 dX12_number_29 (by decide) ?_
  refine lv_ishl C.1 C.2.1 dX12_number_31 ?_
  refine lv_ior C.1 C.2.1 dX12_number_32 ?_
  refine lv_aload_n C.1 C.2.1 dX12_number_33 rfl (lv_at hl 0 rfl) ?_
  refine lv_iload_n C.1 C.2.1 dX12_number_34 rfl (lv_at hl 1 rfl) ?_
  refine lv_iconst (v := 3) C.1 C.2.1 dX12_number_35 (by decide) ?_
  refine lv_iadd C.1 C.2.1 dX12_number_36 ?_
  refine m_i (y := nI (p1 + 3)) (nI_add p1 3) ?_
  refine m_bald C w (k := k1) (i := p1 + 3) (n := n1) (wr := w1) hk1 hs1 (by omega) hn1 dX12_number_37 ?_
  refine lv_sipush (v := 255) C.1 C.2.1 dX12_number_38 (by decide) ?_
  refine lv_iand C.1 C.2.1 dX12_number_41 ?_
  refine lv_bipush (v := 24) C.1 C.2.1 dX12_number_42 (by decide) ?_
  refine lv_ishl C.1 C.2.1 dX12_number_44 ?_
  refine lv_ior C.1 C.2.1 dX12_number_45 ?_
  exact m_iret C w ⟨by exact Eq.symm (rfl), rfl⟩ dX12_number_46

def f_X12_quarter (p1 : Nat) (p2 : Nat) (p3 : Nat) (p4 : Nat) (M : mm_M) : mm_M :=
  let M_1 := mm_w M 148 p1 ((M.1 148 p1) + (M.1 148 p2))
  let M_3 := mm_w M_1 148 p4 (f_X12_turned ((M_1.1 148 p4) ^^^ (M_1.1 148 p1)) (16 : Int32))
  let M_4 := mm_w M_3 148 p3 ((M_3.1 148 p3) + (M_3.1 148 p4))
  let M_6 := mm_w M_4 148 p2 (f_X12_turned ((M_4.1 148 p2) ^^^ (M_4.1 148 p3)) (20 : Int32))
  let M_7 := mm_w M_6 148 p1 ((M_6.1 148 p1) + (M_6.1 148 p2))
  let M_9 := mm_w M_7 148 p4 (f_X12_turned ((M_7.1 148 p4) ^^^ (M_7.1 148 p1)) (24 : Int32))
  let M_10 := mm_w M_9 148 p3 ((M_9.1 148 p3) + (M_9.1 148 p4))
  let M_12 := mm_w M_10 148 p2 (f_X12_turned ((M_10.1 148 p2) ^^^ (M_10.1 148 p3)) (25 : Int32))
  M_12
theorem w_f_X12_quarter (p1 : Nat) (p2 : Nat) (p3 : Nat) (p4 : Nat) (M : mm_M) : mm_fr [148] M (f_X12_quarter p1 p2 p3 p4 M) := by
  unfold f_X12_quarter
  exact (mm_fr_w (by simp) (mm_fr_w (by simp) (mm_fr_w (by simp) (mm_fr_w (by simp) (mm_fr_w (by simp) (mm_fr_w (by simp) (mm_fr_w (by simp) (mm_fr_w (by simp) (mm_fr_refl _ _)))))))))
set_option maxHeartbeats 4000000 in
set_option maxRecDepth 100000 in
theorem c_X12_quarter (l : Launch) (D : va_G) (b0 : Nat) (r : Nat → Nat) (M : mm_M) (p1 : Nat) (p2 : Nat) (p3 : Nat) (p4 : Nat) (hp1 : p1 < 16) (hp2 : p2 < 16) (hp3 : p3 < 16) (hp4 : p4 < 16) : mm_Mv l yX12_quarter cX12_quarter 5 1 21 D b0 r [.ref (r (117)), .int (nI (p1)), .int (nI (p2)), .int (nI (p3)), .int (nI (p4))] M (fun M' => M' = f_X12_quarter p1 p2 p3 p4 M) := by
  refine mm_enter (cc := cX12_quarter) (nL := 5) (ret := none) (by decide) (Nat.le_of_ble_eq_true rfl) ?_
  intro p e s m args below meth c C w ls hl
  have hl : lv_has ls 5 [(0, .ref (r (117))), (1, .int (nI (p1))), (2, .int (nI (p2))), (3, .int (nI (p3))), (4, .int (nI (p4)))] := hl
  refine lv_aload_n C.1 C.2.1 dX12_quarter_0 rfl (lv_at hl 0 rfl) ?_
  refine m_get C w (k := 117) (j := 33) (v := .ref (r (148))) flX12_174 (by decide) rfl rfl dX12_quarter_1 ?_
  refine lv_iload_n C.1 C.2.1 dX12_quarter_4 rfl (lv_at hl 1 rfl) ?_
  refine lv_dup2_11 C.1 C.2.1 dX12_quarter_5 rfl rfl ?_
  refine m_iald C w (k := 148) (i := p1) (n := 16) (wr := true) (by decide) rfl (by omega) (by decide) dX12_quarter_6 ?_
  refine lv_aload_n C.1 C.2.1 dX12_quarter_7 rfl (lv_at hl 0 rfl) ?_
  refine m_get C w (k := 117) (j := 33) (v := .ref (r (148))) flX12_174 (by decide) rfl rfl dX12_quarter_8 ?_
  refine lv_iload_n C.1 C.2.1 dX12_quarter_11 rfl (lv_at hl 2 rfl) ?_
  refine m_iald C w (k := 148) (i := p2) (n := 16) (wr := true) (by decide) rfl (by omega) (by decide) dX12_quarter_12 ?_
  refine lv_iadd C.1 C.2.1 dX12_quarter_13 ?_
  refine m_iast C w (k := 148) (i := p1) (n := 16) (x := ((M.1 148 p1) + (M.1 148 p2))) (by decide) rfl (by omega) (by decide) dX12_quarter_14 (fun H locs w => ?_)
  obtain ⟨M_1, eM_1⟩ : ∃ zz, zz = mm_w M 148 p1 ((M.1 148 p1) + (M.1 148 p2)) := ⟨_, rfl⟩
  rw [← eM_1] at w
  refine lv_aload_n C.1 C.2.1 dX12_quarter_15 rfl (lv_at hl 0 rfl) ?_
  refine m_get C w (k := 117) (j := 33) (v := .ref (r (148))) flX12_174 (by decide) rfl rfl dX12_quarter_16 ?_
  refine lv_iload C.1 C.2.1 dX12_quarter_19 (lv_at hl 4 rfl) ?_
  refine lv_aload_n C.1 C.2.1 dX12_quarter_21 rfl (lv_at hl 0 rfl) ?_
  refine m_get C w (k := 117) (j := 33) (v := .ref (r (148))) flX12_174 (by decide) rfl rfl dX12_quarter_22 ?_
  refine lv_iload C.1 C.2.1 dX12_quarter_25 (lv_at hl 4 rfl) ?_
  refine m_iald C w (k := 148) (i := p4) (n := 16) (wr := true) (by decide) rfl (by omega) (by decide) dX12_quarter_27 ?_
  refine lv_aload_n C.1 C.2.1 dX12_quarter_28 rfl (lv_at hl 0 rfl) ?_
  refine m_get C w (k := 117) (j := 33) (v := .ref (r (148))) flX12_174 (by decide) rfl rfl dX12_quarter_29 ?_
  refine lv_iload_n C.1 C.2.1 dX12_quarter_32 rfl (lv_at hl 1 rfl) ?_
  refine m_iald C w (k := 148) (i := p1) (n := 16) (wr := true) (by decide) rfl (by omega) (by decide) dX12_quarter_33 ?_
  refine lv_ixor C.1 C.2.1 dX12_quarter_34 ?_
  refine lv_bipush (v := 16) C.1 C.2.1 dX12_quarter_35 (by decide) ?_
  refine m_csi C w hl csX12_261 (As := [.int ((M_1.1 148 p4) ^^^ (M_1.1 148 p1)), .int 16]) (rest := [.int (nI (p4)), .ref (r (148))]) (c_X12_turned l D b0 r M_1 ((M_1.1 148 p4) ^^^ (M_1.1 148 p1)) (16 : Int32) ) rfl rfl (Nat.le_of_ble_eq_true rfl) ⟨Nat.le_of_ble_eq_true rfl, Nat.le_of_ble_eq_true rfl⟩ ⟨Nat.zero_le _, Nat.zero_le _⟩ dX12_quarter_37 (fun v_2 M9 H locs e9 w => ?_)
  obtain ⟨ev_2, e9⟩ := e9
  rw [e9] at w
  subst ev_2
  refine m_iast C w (k := 148) (i := p4) (n := 16) (x := (f_X12_turned ((M_1.1 148 p4) ^^^ (M_1.1 148 p1)) (16 : Int32))) (by decide) rfl (by omega) (by decide) dX12_quarter_40 (fun H locs w => ?_)
  obtain ⟨M_3, eM_3⟩ : ∃ zz, zz = mm_w M_1 148 p4 (f_X12_turned ((M_1.1 148 p4) ^^^ (M_1.1 148 p1)) (16 : Int32)) := ⟨_, rfl⟩
  rw [← eM_3] at w
  refine lv_aload_n C.1 C.2.1 dX12_quarter_41 rfl (lv_at hl 0 rfl) ?_
  refine m_get C w (k := 117) (j := 33) (v := .ref (r (148))) flX12_174 (by decide) rfl rfl dX12_quarter_42 ?_
  refine lv_iload_n C.1 C.2.1 dX12_quarter_45 rfl (lv_at hl 3 rfl) ?_
  refine lv_dup2_11 C.1 C.2.1 dX12_quarter_46 rfl rfl ?_
  refine m_iald C w (k := 148) (i := p3) (n := 16) (wr := true) (by decide) rfl (by omega) (by decide) dX12_quarter_47 ?_
  refine lv_aload_n C.1 C.2.1 dX12_quarter_48 rfl (lv_at hl 0 rfl) ?_
  refine m_get C w (k := 117) (j := 33) (v := .ref (r (148))) flX12_174 (by decide) rfl rfl dX12_quarter_49 ?_
  refine lv_iload C.1 C.2.1 dX12_quarter_52 (lv_at hl 4 rfl) ?_
  refine m_iald C w (k := 148) (i := p4) (n := 16) (wr := true) (by decide) rfl (by omega) (by decide) dX12_quarter_54 ?_
  refine lv_iadd C.1 C.2.1 dX12_quarter_55 ?_
  refine m_iast C w (k := 148) (i := p3) (n := 16) (x := ((M_3.1 148 p3) + (M_3.1 148 p4))) (by decide) rfl (by omega) (by decide) dX12_quarter_56 (fun H locs w => ?_)
  obtain ⟨M_4, eM_4⟩ : ∃ zz, zz = mm_w M_3 148 p3 ((M_3.1 148 p3) + (M_3.1 148 p4)) := ⟨_, rfl⟩
  rw [← eM_4] at w
  refine lv_aload_n C.1 C.2.1 dX12_quarter_57 rfl (lv_at hl 0 rfl) ?_
  refine m_get C w (k := 117) (j := 33) (v := .ref (r (148))) flX12_174 (by decide) rfl rfl dX12_quarter_58 ?_
  refine lv_iload_n C.1 C.2.1 dX12_quarter_61 rfl (lv_at hl 2 rfl) ?_
  refine lv_aload_n C.1 C.2.1 dX12_quarter_62 rfl (lv_at hl 0 rfl) ?_
  refine m_get C w (k := 117) (j := 33) (v := .ref (r (148))) flX12_174 (by decide) rfl rfl dX12_quarter_63 ?_
  refine lv_iload_n C.1 C.2.1 dX12_quarter_66 rfl (lv_at hl 2 rfl) ?_
  refine m_iald C w (k := 148) (i := p2) (n := 16) (wr := true) (by decide) rfl (by omega) (by decide) dX12_quarter_67 ?_
  refine lv_aload_n C.1 C.2.1 dX12_quarter_68 rfl (lv_at hl 0 rfl) ?_
  refine m_get C w (k := 117) (j := 33) (v := .ref (r (148))) flX12_174 (by decide) rfl rfl dX12_quarter_69 ?_
  refine lv_iload_n C.1 C.2.1 dX12_quarter_72 rfl (lv_at hl 3 rfl) ?_
  refine m_iald C w (k := 148) (i := p3) (n := 16) (wr := true) (by decide) rfl (by omega) (by decide) dX12_quarter_73 ?_
  refine lv_ixor C.1 C.2.1 dX12_quarter_74 ?_
  refine lv_bipush (v := 20) C.1 C.2.1 dX12_quarter_75 (by decide) ?_
  refine m_csi C w hl csX12_261 (As := [.int ((M_4.1 148 p2) ^^^ (M_4.1 148 p3)), .int 20]) (rest := [.int (nI (p2)), .ref (r (148))]) (c_X12_turned l D b0 r M_4 ((M_4.1 148 p2) ^^^ (M_4.1 148 p3)) (20 : Int32) ) rfl rfl (Nat.le_of_ble_eq_true rfl) ⟨Nat.le_of_ble_eq_true rfl, Nat.le_of_ble_eq_true rfl⟩ ⟨Nat.zero_le _, Nat.zero_le _⟩ dX12_quarter_77 (fun v_5 M9 H locs e9 w => ?_)
  obtain ⟨ev_5, e9⟩ := e9
  rw [e9] at w
  subst ev_5
  refine m_iast C w (k := 148) (i := p2) (n := 16) (x := (f_X12_turned ((M_4.1 148 p2) ^^^ (M_4.1 148 p3)) (20 : Int32))) (by decide) rfl (by omega) (by decide) dX12_quarter_80 (fun H locs w => ?_)
  obtain ⟨M_6, eM_6⟩ : ∃ zz, zz = mm_w M_4 148 p2 (f_X12_turned ((M_4.1 148 p2) ^^^ (M_4.1 148 p3)) (20 : Int32)) := ⟨_, rfl⟩
  rw [← eM_6] at w
  refine lv_aload_n C.1 C.2.1 dX12_quarter_81 rfl (lv_at hl 0 rfl) ?_
  refine m_get C w (k := 117) (j := 33) (v := .ref (r (148))) flX12_174 (by decide) rfl rfl dX12_quarter_82 ?_
  refine lv_iload_n C.1 C.2.1 dX12_quarter_85 rfl (lv_at hl 1 rfl) ?_
  refine lv_dup2_11 C.1 C.2.1 dX12_quarter_86 rfl rfl ?_
  refine m_iald C w (k := 148) (i := p1) (n := 16) (wr := true) (by decide) rfl (by omega) (by decide) dX12_quarter_87 ?_
  refine lv_aload_n C.1 C.2.1 dX12_quarter_88 rfl (lv_at hl 0 rfl) ?_
  refine m_get C w (k := 117) (j := 33) (v := .ref (r (148))) flX12_174 (by decide) rfl rfl dX12_quarter_89 ?_
  refine lv_iload_n C.1 C.2.1 dX12_quarter_92 rfl (lv_at hl 2 rfl) ?_
  refine m_iald C w (k := 148) (i := p2) (n := 16) (wr := true) (by decide) rfl (by omega) (by decide) dX12_quarter_93 ?_
  refine lv_iadd C.1 C.2.1 dX12_quarter_94 ?_
  refine m_iast C w (k := 148) (i := p1) (n := 16) (x := ((M_6.1 148 p1) + (M_6.1 148 p2))) (by decide) rfl (by omega) (by decide) dX12_quarter_95 (fun H locs w => ?_)
  obtain ⟨M_7, eM_7⟩ : ∃ zz, zz = mm_w M_6 148 p1 ((M_6.1 148 p1) + (M_6.1 148 p2)) := ⟨_, rfl⟩
  rw [← eM_7] at w
  refine lv_aload_n C.1 C.2.1 dX12_quarter_96 rfl (lv_at hl 0 rfl) ?_
  refine m_get C w (k := 117) (j := 33) (v := .ref (r (148))) flX12_174 (by decide) rfl rfl dX12_quarter_97 ?_
  refine lv_iload C.1 C.2.1 dX12_quarter_100 (lv_at hl 4 rfl) ?_
  refine lv_aload_n C.1 C.2.1 dX12_quarter_102 rfl (lv_at hl 0 rfl) ?_
  refine m_get C w (k := 117) (j := 33) (v := .ref (r (148))) flX12_174 (by decide) rfl rfl dX12_quarter_103 ?_
  refine lv_iload C.1 C.2.1 dX12_quarter_106 (lv_at hl 4 rfl) ?_
  refine m_iald C w (k := 148) (i := p4) (n := 16) (wr := true) (by decide) rfl (by omega) (by decide) dX12_quarter_108 ?_
  refine lv_aload_n C.1 C.2.1 dX12_quarter_109 rfl (lv_at hl 0 rfl) ?_
  refine m_get C w (k := 117) (j := 33) (v := .ref (r (148))) flX12_174 (by decide) rfl rfl dX12_quarter_110 ?_
  refine lv_iload_n C.1 C.2.1 dX12_quarter_113 rfl (lv_at hl 1 rfl) ?_
  refine m_iald C w (k := 148) (i := p1) (n := 16) (wr := true) (by decide) rfl (by omega) (by decide) dX12_quarter_114 ?_
  refine lv_ixor C.1 C.2.1 dX12_quarter_115 ?_
  refine lv_bipush (v := 24) C.1 C.2.1 dX12_quarter_116 (by decide) ?_
  refine m_csi C w hl csX12_261 (As := [.int ((M_7.1 148 p4) ^^^ (M_7.1 148 p1)), .int 24]) (rest := [.int (nI (p4)), .ref (r (148))]) (c_X12_turned l D b0 r M_7 ((M_7.1 148 p4) ^^^ (M_7.1 148 p1)) (24 : Int32) ) rfl rfl (Nat.le_of_ble_eq_true rfl) ⟨Nat.le_of_ble_eq_true rfl, Nat.le_of_ble_eq_true rfl⟩ ⟨Nat.zero_le _, Nat.zero_le _⟩ dX12_quarter_118 (fun v_8 M9 H locs e9 w => ?_)
  obtain ⟨ev_8, e9⟩ := e9
  rw [e9] at w
  subst ev_8
  refine m_iast C w (k := 148) (i := p4) (n := 16) (x := (f_X12_turned ((M_7.1 148 p4) ^^^ (M_7.1 148 p1)) (24 : Int32))) (by decide) rfl (by omega) (by decide) dX12_quarter_121 (fun H locs w => ?_)
  obtain ⟨M_9, eM_9⟩ : ∃ zz, zz = mm_w M_7 148 p4 (f_X12_turned ((M_7.1 148 p4) ^^^ (M_7.1 148 p1)) (24 : Int32)) := ⟨_, rfl⟩
  rw [← eM_9] at w
  refine lv_aload_n C.1 C.2.1 dX12_quarter_122 rfl (lv_at hl 0 rfl) ?_
  refine m_get C w (k := 117) (j := 33) (v := .ref (r (148))) flX12_174 (by decide) rfl rfl dX12_quarter_123 ?_
  refine lv_iload_n C.1 C.2.1 dX12_quarter_126 rfl (lv_at hl 3 rfl) ?_
  refine lv_dup2_11 C.1 C.2.1 dX12_quarter_127 rfl rfl ?_
  refine m_iald C w (k := 148) (i := p3) (n := 16) (wr := true) (by decide) rfl (by omega) (by decide) dX12_quarter_128 ?_
  refine lv_aload_n C.1 C.2.1 dX12_quarter_129 rfl (lv_at hl 0 rfl) ?_
  refine m_get C w (k := 117) (j := 33) (v := .ref (r (148))) flX12_174 (by decide) rfl rfl dX12_quarter_130 ?_
  refine lv_iload C.1 C.2.1 dX12_quarter_133 (lv_at hl 4 rfl) ?_
  refine m_iald C w (k := 148) (i := p4) (n := 16) (wr := true) (by decide) rfl (by omega) (by decide) dX12_quarter_135 ?_
  refine lv_iadd C.1 C.2.1 dX12_quarter_136 ?_
  refine m_iast C w (k := 148) (i := p3) (n := 16) (x := ((M_9.1 148 p3) + (M_9.1 148 p4))) (by decide) rfl (by omega) (by decide) dX12_quarter_137 (fun H locs w => ?_)
  obtain ⟨M_10, eM_10⟩ : ∃ zz, zz = mm_w M_9 148 p3 ((M_9.1 148 p3) + (M_9.1 148 p4)) := ⟨_, rfl⟩
  rw [← eM_10] at w
  refine lv_aload_n C.1 C.2.1 dX12_quarter_138 rfl (lv_at hl 0 rfl) ?_
  refine m_get C w (k := 117) (j := 33) (v := .ref (r (148))) flX12_174 (by decide) rfl rfl dX12_quarter_139 ?_
  refine lv_iload_n C.1 C.2.1 dX12_quarter_142 rfl (lv_at hl 2 rfl) ?_
  refine lv_aload_n C.1 C.2.1 dX12_quarter_143 rfl (lv_at hl 0 rfl) ?_
  refine m_get C w (k := 117) (j := 33) (v := .ref (r (148))) flX12_174 (by decide) rfl rfl dX12_quarter_144 ?_
  refine lv_iload_n C.1 C.2.1 dX12_quarter_147 rfl (lv_at hl 2 rfl) ?_
  refine m_iald C w (k := 148) (i := p2) (n := 16) (wr := true) (by decide) rfl (by omega) (by decide) dX12_quarter_148 ?_
  refine lv_aload_n C.1 C.2.1 dX12_quarter_149 rfl (lv_at hl 0 rfl) ?_
  refine m_get C w (k := 117) (j := 33) (v := .ref (r (148))) flX12_174 (by decide) rfl rfl dX12_quarter_150 ?_
  refine lv_iload_n C.1 C.2.1 dX12_quarter_153 rfl (lv_at hl 3 rfl) ?_
  refine m_iald C w (k := 148) (i := p3) (n := 16) (wr := true) (by decide) rfl (by omega) (by decide) dX12_quarter_154 ?_
  refine lv_ixor C.1 C.2.1 dX12_quarter_155 ?_
  refine lv_bipush (v := 25) C.1 C.2.1 dX12_quarter_156 (by decide) ?_
  refine m_csi C w hl csX12_261 (As := [.int ((M_10.1 148 p2) ^^^ (M_10.1 148 p3)), .int 25]) (rest := [.int (nI (p2)), .ref (r (148))]) (c_X12_turned l D b0 r M_10 ((M_10.1 148 p2) ^^^ (M_10.1 148 p3)) (25 : Int32) ) rfl rfl (Nat.le_of_ble_eq_true rfl) ⟨Nat.le_of_ble_eq_true rfl, Nat.le_of_ble_eq_true rfl⟩ ⟨Nat.zero_le _, Nat.zero_le _⟩ dX12_quarter_158 (fun v_11 M9 H locs e9 w => ?_)
  obtain ⟨ev_11, e9⟩ := e9
  rw [e9] at w
  subst ev_11
  refine m_iast C w (k := 148) (i := p2) (n := 16) (x := (f_X12_turned ((M_10.1 148 p2) ^^^ (M_10.1 148 p3)) (25 : Int32))) (by decide) rfl (by omega) (by decide) dX12_quarter_161 (fun H locs w => ?_)
  obtain ⟨M_12, eM_12⟩ : ∃ zz, zz = mm_w M_10 148 p2 (f_X12_turned ((M_10.1 148 p2) ^^^ (M_10.1 148 p3)) (25 : Int32)) := ⟨_, rfl⟩
  rw [← eM_12] at w
  exact m_vret C w (by subst eM_1 eM_3 eM_4 eM_6 eM_7 eM_9 eM_10 eM_12; exact Eq.symm (rfl)) dX12_quarter_162

def f_X12_streamed_L241  (σ : mm_M) : Nat → mm_M
  | 0 => σ
  | t + 1 =>
  let M_17 := f_X12_streamed_L241 σ t
  let M_19 := mm_w M_17 149 t (mm_b (((M_17.1 148 (t / 4)) + (M_17.1 147 (t / 4))) >>> ((nI (8 * (t % 4))) &&& 31)))
  M_19
theorem w_f_X12_streamed_L241  (σ : mm_M) : ∀ t : Nat, mm_fr [149] σ (f_X12_streamed_L241 σ t)
  | 0 => mm_fr_refl _ _
  | t + 1 => have ih := w_f_X12_streamed_L241 σ t
    (mm_fr_w (by simp) ih)
def f_X12_streamed_L188  (σ : mm_M) : Nat → mm_M
  | 0 => σ
  | t1 + 1 =>
  let M_26 := f_X12_streamed_L188 σ t1
  let M_28 := f_X12_quarter t1 (4 + ((t1 + 1) % 4)) (8 + ((t1 + 2) % 4)) (12 + ((t1 + 3) % 4)) M_26
  M_28
theorem w_f_X12_streamed_L188  (σ : mm_M) : ∀ t1 : Nat, mm_fr [148] σ (f_X12_streamed_L188 σ t1)
  | 0 => mm_fr_refl _ _
  | t1 + 1 => have ih := w_f_X12_streamed_L188 σ t1
    ((w_f_X12_quarter _ _ _ _ _).on (by simp) ih)
def f_X12_streamed_L153  (σ : mm_M) : Nat → mm_M
  | 0 => σ
  | t1 + 1 =>
  let M_29 := f_X12_streamed_L153 σ t1
  let M_31 := f_X12_quarter t1 (4 + t1) (8 + t1) (12 + t1) M_29
  M_31
theorem w_f_X12_streamed_L153  (σ : mm_M) : ∀ t1 : Nat, mm_fr [148] σ (f_X12_streamed_L153 σ t1)
  | 0 => mm_fr_refl _ _
  | t1 + 1 => have ih := w_f_X12_streamed_L153 σ t1
    ((w_f_X12_quarter _ _ _ _ _).on (by simp) ih)
def f_X12_streamed_L143  (σ : mm_M) : Nat → mm_M
  | 0 => σ
  | t + 1 =>
  let M_20 := f_X12_streamed_L143 σ t
  let M_22 := f_X12_streamed_L153 M_20 4
  let M_24 := f_X12_streamed_L188 M_22 4
  M_24
theorem w_f_X12_streamed_L143  (σ : mm_M) : ∀ t : Nat, mm_fr [148] σ (f_X12_streamed_L143 σ t)
  | 0 => mm_fr_refl _ _
  | t + 1 => have ih := w_f_X12_streamed_L143 σ t
    ((w_f_X12_streamed_L188 _ 4).on (by simp) ((w_f_X12_streamed_L153 _ 4).on (by simp) ih))
def f_X12_streamed_L113  (σ : mm_M) : Nat → mm_M
  | 0 => σ
  | t + 1 =>
  let M_32 := f_X12_streamed_L113 σ t
  let M_34 := mm_w M_32 148 t (M_32.1 147 t)
  M_34
theorem w_f_X12_streamed_L113  (σ : mm_M) : ∀ t : Nat, mm_fr [148] σ (f_X12_streamed_L113 σ t)
  | 0 => mm_fr_refl _ _
  | t + 1 => have ih := w_f_X12_streamed_L113 σ t
    (mm_fr_w (by simp) ih)
def f_X12_streamed_L39 (k1 : Nat) (p1 : Nat) (σ : mm_M) : Nat → mm_M
  | 0 => σ
  | t + 1 =>
  let M_35 := f_X12_streamed_L39 k1 p1 σ t
  let M_38 := mm_w M_35 147 (4 + t) (f_X12_number k1 (p1 + (4 * t)) M_35)
  M_38
theorem w_f_X12_streamed_L39 (k1 : Nat) (p1 : Nat) (σ : mm_M) : ∀ t : Nat, mm_fr [147] σ (f_X12_streamed_L39 k1 p1 σ t)
  | 0 => mm_fr_refl _ _
  | t + 1 => have ih := w_f_X12_streamed_L39 k1 p1 σ t
    (mm_fr_w (by simp) ih)
def f_X12_streamed (k1 : Nat) (p1 : Nat) (v1 : Int32) (u1 : Int64) (M : mm_M) : mm_M :=
  let M_1 := mm_w M 147 0 (1634760805 : Int32)
  let M_2 := mm_w M_1 147 1 (857760878 : Int32)
  let M_3 := mm_w M_2 147 2 (2036477234 : Int32)
  let M_4 := mm_w M_3 147 3 (1797285236 : Int32)
  let M_5 := f_X12_streamed_L39 k1 p1 M_4 8
  let M_7 := mm_w M_5 147 12 (v1)
  let M_8 := mm_w M_7 147 13 (0 : Int32)
  let M_9 := mm_w M_8 147 14 (((u1) : Int64).toInt32)
  let M_10 := mm_w M_9 147 15 ((((u1) >>> (((32 : Int32)).toInt64 &&& 63)) : Int64).toInt32)
  let M_11 := f_X12_streamed_L113 M_10 16
  let M_13 := f_X12_streamed_L143 M_11 10
  let M_15 := f_X12_streamed_L241 M_13 64
  M_15
theorem w_f_X12_streamed (k1 : Nat) (p1 : Nat) (v1 : Int32) (u1 : Int64) (M : mm_M) : mm_fr [147, 149, 148] M (f_X12_streamed k1 p1 v1 u1 M) := by
  unfold f_X12_streamed
  exact ((w_f_X12_streamed_L241 _ 64).on (by simp) ((w_f_X12_streamed_L143 _ 10).on (by simp) ((w_f_X12_streamed_L113 _ 16).on (by simp) (mm_fr_w (by simp) (mm_fr_w (by simp) (mm_fr_w (by simp) (mm_fr_w (by simp) ((w_f_X12_streamed_L39 _ _ _ 8).on (by simp) (mm_fr_w (by simp) (mm_fr_w (by simp) (mm_fr_w (by simp) (mm_fr_w (by simp) (mm_fr_refl _ _)))))))))))))
set_option maxHeartbeats 4000000 in
set_option maxRecDepth 100000 in
theorem c_X12_streamed (l : Launch) (D : va_G) (b0 : Nat) (r : Nat → Nat) (M : mm_M) (k1 : Nat) (p1 : Nat) (v1 : Int32) (u1 : Int64) {n1 : Nat} {w1 : Bool} (hk1 : k1 < 181) (hs1 : mm_sh k1 = .inl (.byte, n1, w1)) (hn1 : n1 < 2 ^ 31) (hp1 : p1 + 32 ≤ n1) (hq1 : n1 < 2 ^ 30) : mm_Mv l yX12_streamed cX12_streamed 8 2 45 D b0 r [.ref (r (117)), .ref (r (k1)), .int (nI (p1)), .int (v1), .long (u1)] M (fun M' => M' = f_X12_streamed k1 p1 v1 u1 M) := by
  refine mm_enter (cc := cX12_streamed) (nL := 8) (ret := none) (by decide) (Nat.le_of_ble_eq_true rfl) ?_
  intro p e s m args below meth c C w ls hl
  have hl : lv_has ls 8 [(0, .ref (r (117))), (1, .ref (r (k1))), (2, .int (nI (p1))), (3, .int (v1)), (4, .long (u1))] := hl
  refine lv_aload_n C.1 C.2.1 dX12_streamed_0 rfl (lv_at hl 0 rfl) ?_
  refine m_get C w (k := 117) (j := 32) (v := .ref (r (147))) flX12_171 (by decide) rfl rfl dX12_streamed_1 ?_
  refine lv_iconst (v := 0) C.1 C.2.1 dX12_streamed_4 (by decide) ?_
  refine lv_ldcw (v := (1634760805)) C.1 C.2.1 C.2.2.2.1 (C.2.2.2.2.1 _ kkX12_326) dX12_streamed_5 ?_
  refine m_iast C w (k := 147) (i := 0) (n := 16) (x := (1634760805 : Int32)) (by decide) rfl (by omega) (by decide) dX12_streamed_8 (fun H locs w => ?_)
  obtain ⟨M_1, eM_1⟩ : ∃ zz, zz = mm_w M 147 0 (1634760805 : Int32) := ⟨_, rfl⟩
  rw [← eM_1] at w
  refine lv_aload_n C.1 C.2.1 dX12_streamed_9 rfl (lv_at hl 0 rfl) ?_
  refine m_get C w (k := 117) (j := 32) (v := .ref (r (147))) flX12_171 (by decide) rfl rfl dX12_streamed_10 ?_
  refine lv_iconst (v := 1) C.1 C.2.1 dX12_streamed_13 (by decide) ?_
  refine lv_ldcw (v := (857760878)) C.1 C.2.1 C.2.2.2.1 (C.2.2.2.2.1 _ kkX12_327) dX12_streamed_14 ?_
  refine m_iast C w (k := 147) (i := 1) (n := 16) (x := (857760878 : Int32)) (by decide) rfl (by omega) (by decide) dX12_streamed_17 (fun H locs w => ?_)
  obtain ⟨M_2, eM_2⟩ : ∃ zz, zz = mm_w M_1 147 1 (857760878 : Int32) := ⟨_, rfl⟩
  rw [← eM_2] at w
  refine lv_aload_n C.1 C.2.1 dX12_streamed_18 rfl (lv_at hl 0 rfl) ?_
  refine m_get C w (k := 117) (j := 32) (v := .ref (r (147))) flX12_171 (by decide) rfl rfl dX12_streamed_19 ?_
  refine lv_iconst (v := 2) C.1 C.2.1 dX12_streamed_22 (by decide) ?_
  refine lv_ldcw (v := (2036477234)) C.1 C.2.1 C.2.2.2.1 (C.2.2.2.2.1 _ kkX12_328) dX12_streamed_23 ?_
  refine m_iast C w (k := 147) (i := 2) (n := 16) (x := (2036477234 : Int32)) (by decide) rfl (by omega) (by decide) dX12_streamed_26 (fun H locs w => ?_)
  obtain ⟨M_3, eM_3⟩ : ∃ zz, zz = mm_w M_2 147 2 (2036477234 : Int32) := ⟨_, rfl⟩
  rw [← eM_3] at w
  refine lv_aload_n C.1 C.2.1 dX12_streamed_27 rfl (lv_at hl 0 rfl) ?_
  refine m_get C w (k := 117) (j := 32) (v := .ref (r (147))) flX12_171 (by decide) rfl rfl dX12_streamed_28 ?_
  refine lv_iconst (v := 3) C.1 C.2.1 dX12_streamed_31 (by decide) ?_
  refine lv_ldcw (v := (1797285236)) C.1 C.2.1 C.2.2.2.1 (C.2.2.2.2.1 _ kkX12_329) dX12_streamed_32 ?_
  refine m_iast C w (k := 147) (i := 3) (n := 16) (x := (1797285236 : Int32)) (by decide) rfl (by omega) (by decide) dX12_streamed_35 (fun H locs w => ?_)
  obtain ⟨M_4, eM_4⟩ : ∃ zz, zz = mm_w M_3 147 3 (1797285236 : Int32) := ⟨_, rfl⟩
  rw [← eM_4] at w
  refine lv_iconst (v := 0) C.1 C.2.1 dX12_streamed_36 (by decide) ?_
  refine lv_istore (lv' := [(6, .int 0), (0, .ref (r (117))), (1, .ref (r (k1))), (2, .int (nI (p1))), (3, .int (v1)), (4, .long (u1))]) C.1 C.2.1 dX12_streamed_37 hl (by decide) rfl (fun ls hl => ?_)
  have loop : ∀ (k t : Nat), t + k = 8 → ∀ (H : Heap) (locs : List Loc) (ls : Array Slot), mm_W D b0 r (f_X12_streamed_L39 k1 p1 M_4 t) s H locs → lv_has ls 8 [(6, .int (nI (t))), (0, .ref (r (117))), (1, .ref (r (k1))), (2, .int (nI (p1))), (3, .int (v1)), (4, .long (u1))] → W p l e (mm_rm 2 45) s m args below meth c H locs 0 0 (MQ below (va_Qv (fun M' => M' = f_X12_streamed k1 p1 v1 u1 M) (mm_U D b0 r) (fun q => b0 ≤ q)) args s 0 0 (fun q => b0 ≤ q)) (F0 m 39 ls []) := by
    intro k
    induction k with
    | zero =>
      intro t ht H locs ls w hl
      obtain rfl : 8 = t := by omega
      obtain ⟨M_5, eM_5⟩ : ∃ zz, zz = f_X12_streamed_L39 k1 p1 M_4 8 := ⟨_, rfl⟩
      rw [← eM_5] at w
      refine lv_iload C.1 C.2.1 dX12_streamed_39 (lv_at hl 0 rfl) ?_
      refine lv_bipush (v := 8) C.1 C.2.1 dX12_streamed_41 (by decide) ?_
      refine m_icmp_ge (tgt := 71) (a := 8) (b := 8) C (by omega) (by omega) dX12_streamed_43 (by decide) (fun _ => ?_) (fun h_6 => absurd h_6 (by omega))
      refine lv_aload_n C.1 C.2.1 dX12_streamed_71 rfl (lv_at hl 1 rfl) ?_
      refine m_get C w (k := 117) (j := 32) (v := .ref (r (147))) flX12_171 (by decide) rfl rfl dX12_streamed_72 ?_
      refine lv_bipush (v := 12) C.1 C.2.1 dX12_streamed_75 (by decide) ?_
      refine lv_iload_n C.1 C.2.1 dX12_streamed_77 rfl (lv_at hl 4 rfl) ?_
      refine m_iast C w (k := 147) (i := 12) (n := 16) (x := (v1)) (by decide) rfl (by omega) (by decide) dX12_streamed_78 (fun H locs w => ?_)
      obtain ⟨M_7, eM_7⟩ : ∃ zz, zz = mm_w M_5 147 12 (v1) := ⟨_, rfl⟩
      rw [← eM_7] at w
      refine lv_aload_n C.1 C.2.1 dX12_streamed_79 rfl (lv_at hl 1 rfl) ?_
      refine m_get C w (k := 117) (j := 32) (v := .ref (r (147))) flX12_171 (by decide) rfl rfl dX12_streamed_80 ?_
      refine lv_bipush (v := 13) C.1 C.2.1 dX12_streamed_83 (by decide) ?_
      refine lv_iconst (v := 0) C.1 C.2.1 dX12_streamed_85 (by decide) ?_
      refine m_iast C w (k := 147) (i := 13) (n := 16) (x := (0 : Int32)) (by decide) rfl (by omega) (by decide) dX12_streamed_86 (fun H locs w => ?_)
      obtain ⟨M_8, eM_8⟩ : ∃ zz, zz = mm_w M_7 147 13 (0 : Int32) := ⟨_, rfl⟩
      rw [← eM_8] at w
      refine lv_aload_n C.1 C.2.1 dX12_streamed_87 rfl (lv_at hl 1 rfl) ?_
      refine m_get C w (k := 117) (j := 32) (v := .ref (r (147))) flX12_171 (by decide) rfl rfl dX12_streamed_88 ?_
      refine lv_bipush (v := 14) C.1 C.2.1 dX12_streamed_91 (by decide) ?_
      refine lv_lload C.1 C.2.1 dX12_streamed_93 (lv_at hl 5 rfl) ?_
      refine lv_l2i (v := ((u1) : Int64).toInt32) C.1 C.2.1 dX12_streamed_95 rfl ?_
      refine m_iast C w (k := 147) (i := 14) (n := 16) (x := (((u1) : Int64).toInt32)) (by decide) rfl (by omega) (by decide) dX12_streamed_96 (fun H locs w => ?_)
      obtain ⟨M_9, eM_9⟩ : ∃ zz, zz = mm_w M_8 147 14 (((u1) : Int64).toInt32) := ⟨_, rfl⟩
      rw [← eM_9] at w
      refine lv_aload_n C.1 C.2.1 dX12_streamed_97 rfl (lv_at hl 1 rfl) ?_
      refine m_get C w (k := 117) (j := 32) (v := .ref (r (147))) flX12_171 (by decide) rfl rfl dX12_streamed_98 ?_
      refine lv_bipush (v := 15) C.1 C.2.1 dX12_streamed_101 (by decide) ?_
      refine lv_lload C.1 C.2.1 dX12_streamed_103 (lv_at hl 5 rfl) ?_
      refine lv_bipush (v := 32) C.1 C.2.1 dX12_streamed_105 (by decide) ?_
      refine lv_lshr (v := (u1) >>> (((32 : Int32)).toInt64 &&& 63)) C.1 C.2.1 dX12_streamed_107 rfl ?_
      refine lv_l2i (v := (((u1) >>> (((32 : Int32)).toInt64 &&& 63)) : Int64).toInt32) C.1 C.2.1 dX12_streamed_108 rfl ?_
      refine m_iast C w (k := 147) (i := 15) (n := 16) (x := ((((u1) >>> (((32 : Int32)).toInt64 &&& 63)) : Int64).toInt32)) (by decide) rfl (by omega) (by decide) dX12_streamed_109 (fun H locs w => ?_)
      obtain ⟨M_10, eM_10⟩ : ∃ zz, zz = mm_w M_9 147 15 ((((u1) >>> (((32 : Int32)).toInt64 &&& 63)) : Int64).toInt32) := ⟨_, rfl⟩
      rw [← eM_10] at w
      refine lv_iconst (v := 0) C.1 C.2.1 dX12_streamed_110 (by decide) ?_
      refine lv_istore (lv' := [(6, .int 0), (0, .ref (r (117))), (1, .ref (r (k1))), (2, .int (nI (p1))), (3, .int (v1)), (4, .long (u1))]) C.1 C.2.1 dX12_streamed_111 hl (by decide) rfl (fun ls hl => ?_)
      have loop : ∀ (k t : Nat), t + k = 16 → ∀ (H : Heap) (locs : List Loc) (ls : Array Slot), mm_W D b0 r (f_X12_streamed_L113 M_10 t) s H locs → lv_has ls 8 [(6, .int (nI (t))), (0, .ref (r (117))), (1, .ref (r (k1))), (2, .int (nI (p1))), (3, .int (v1)), (4, .long (u1))] → W p l e (mm_rm 2 45) s m args below meth c H locs 0 0 (MQ below (va_Qv (fun M' => M' = f_X12_streamed k1 p1 v1 u1 M) (mm_U D b0 r) (fun q => b0 ≤ q)) args s 0 0 (fun q => b0 ≤ q)) (F0 m 113 ls []) := by
        intro k
        induction k with
        | zero =>
          intro t ht H locs ls w hl
          obtain rfl : 16 = t := by omega
          obtain ⟨M_11, eM_11⟩ : ∃ zz, zz = f_X12_streamed_L113 M_10 16 := ⟨_, rfl⟩
          rw [← eM_11] at w
          refine lv_iload C.1 C.2.1 dX12_streamed_113 (lv_at hl 0 rfl) ?_
          refine lv_bipush (v := 16) C.1 C.2.1 dX12_streamed_115 (by decide) ?_
          refine m_icmp_ge (tgt := 140) (a := 16) (b := 16) C (by omega) (by omega) dX12_streamed_117 (by decide) (fun _ => ?_) (fun h_12 => absurd h_12 (by omega))
          refine lv_iconst (v := 0) C.1 C.2.1 dX12_streamed_140 (by decide) ?_
          refine lv_istore (lv' := [(6, .int 0), (0, .ref (r (117))), (1, .ref (r (k1))), (2, .int (nI (p1))), (3, .int (v1)), (4, .long (u1))]) C.1 C.2.1 dX12_streamed_141 hl (by decide) rfl (fun ls hl => ?_)
          have loop : ∀ (k t : Nat), t + k = 10 → ∀ (H : Heap) (locs : List Loc) (ls : Array Slot), mm_W D b0 r (f_X12_streamed_L143 M_11 t) s H locs → lv_has ls 8 [(6, .int (nI (t))), (0, .ref (r (117))), (1, .ref (r (k1))), (2, .int (nI (p1))), (3, .int (v1)), (4, .long (u1))] → W p l e (mm_rm 2 45) s m args below meth c H locs 0 0 (MQ below (va_Qv (fun M' => M' = f_X12_streamed k1 p1 v1 u1 M) (mm_U D b0 r) (fun q => b0 ≤ q)) args s 0 0 (fun q => b0 ≤ q)) (F0 m 143 ls []) := by
            intro k
            induction k with
            | zero =>
              intro t ht H locs ls w hl
              obtain rfl : 10 = t := by omega
              obtain ⟨M_13, eM_13⟩ : ∃ zz, zz = f_X12_streamed_L143 M_11 10 := ⟨_, rfl⟩
              rw [← eM_13] at w
              refine lv_iload C.1 C.2.1 dX12_streamed_143 (lv_at hl 0 rfl) ?_
              refine lv_bipush (v := 10) C.1 C.2.1 dX12_streamed_145 (by decide) ?_
              refine m_icmp_ge (tgt := 238) (a := 10) (b := 10) C (by omega) (by omega) dX12_streamed_147 (by decide) (fun _ => ?_) (fun h_14 => absurd h_14 (by omega))
              refine lv_iconst (v := 0) C.1 C.2.1 dX12_streamed_238 (by decide) ?_
              refine lv_istore (lv' := [(6, .int 0), (0, .ref (r (117))), (1, .ref (r (k1))), (2, .int (nI (p1))), (3, .int (v1)), (4, .long (u1))]) C.1 C.2.1 dX12_streamed_239 hl (by decide) rfl (fun ls hl => ?_)
              have loop : ∀ (k t : Nat), t + k = 64 → ∀ (H : Heap) (locs : List Loc) (ls : Array Slot), mm_W D b0 r (f_X12_streamed_L241 M_13 t) s H locs → lv_has ls 8 [(6, .int (nI (t))), (0, .ref (r (117))), (1, .ref (r (k1))), (2, .int (nI (p1))), (3, .int (v1)), (4, .long (u1))] → W p l e (mm_rm 2 45) s m args below meth c H locs 0 0 (MQ below (va_Qv (fun M' => M' = f_X12_streamed k1 p1 v1 u1 M) (mm_U D b0 r) (fun q => b0 ≤ q)) args s 0 0 (fun q => b0 ≤ q)) (F0 m 241 ls []) := by
                intro k
                induction k with
                | zero =>
                  intro t ht H locs ls w hl
                  obtain rfl : 64 = t := by omega
                  obtain ⟨M_15, eM_15⟩ : ∃ zz, zz = f_X12_streamed_L241 M_13 64 := ⟨_, rfl⟩
                  rw [← eM_15] at w
                  refine lv_iload C.1 C.2.1 dX12_streamed_241 (lv_at hl 0 rfl) ?_
                  refine lv_bipush (v := 64) C.1 C.2.1 dX12_streamed_243 (by decide) ?_
                  refine m_icmp_ge (tgt := 289) (a := 64) (b := 64) C (by omega) (by omega) dX12_streamed_245 (by decide) (fun _ => ?_) (fun h_16 => absurd h_16 (by omega))
                  exact m_vret C w (by subst eM_1 eM_2 eM_3 eM_4 eM_5 eM_7 eM_8 eM_9 eM_10 eM_11 eM_13 eM_15; exact Eq.symm (rfl)) dX12_streamed_289
                | succ k ih =>
                  intro t ht H locs ls w hl
                  obtain ⟨M_17, eM_17⟩ : ∃ zz, zz = f_X12_streamed_L241 M_13 t := ⟨_, rfl⟩
                  rw [← eM_17] at w
                  refine lv_iload C.1 C.2.1 dX12_streamed_241 (lv_at hl 0 rfl) ?_
                  refine lv_bipush (v := 64) C.1 C.2.1 dX12_streamed_243 (by decide) ?_
                  refine m_icmp_ge (tgt := 289) (a := t) (b := 64) C (by omega) (by omega) dX12_streamed_245 (by decide) (fun h_18 => absurd h_18 (by omega)) (fun _ => ?_)
                  refine lv_aload_n C.1 C.2.1 dX12_streamed_248 rfl (lv_at hl 1 rfl) ?_
                  refine m_get C w (k := 117) (j := 34) (v := .ref (r (149))) flX12_177 (by decide) rfl rfl dX12_streamed_249 ?_
                  refine lv_iload C.1 C.2.1 dX12_streamed_252 (lv_at hl 0 rfl) ?_
                  refine lv_aload_n C.1 C.2.1 dX12_streamed_254 rfl (lv_at hl 1 rfl) ?_
                  refine m_get C w (k := 117) (j := 33) (v := .ref (r (148))) flX12_174 (by decide) rfl rfl dX12_streamed_255 ?_
                  refine lv_iload C.1 C.2.1 dX12_streamed_258 (lv_at hl 0 rfl) ?_
                  refine lv_iconst (v := 4) C.1 C.2.1 dX12_streamed_260 (by decide) ?_
                  refine lv_idiv C.1 C.2.1 dX12_streamed_261 (by decide) ?_
                  refine m_i (y := nI (t / 4)) (pk_div (a := t) (d := 4) (by omega) (by omega) (by omega)) ?_
                  refine m_iald C w (k := 148) (i := t / 4) (n := 16) (wr := true) (by decide) rfl (by omega) (by decide) dX12_streamed_262 ?_
                  refine lv_aload_n C.1 C.2.1 dX12_streamed_263 rfl (lv_at hl 1 rfl) ?_
                  refine m_get C w (k := 117) (j := 32) (v := .ref (r (147))) flX12_171 (by decide) rfl rfl dX12_streamed_264 ?_
                  refine lv_iload C.1 C.2.1 dX12_streamed_267 (lv_at hl 0 rfl) ?_
                  refine lv_iconst (v := 4) C.1 C.2.1 dX12_streamed_269 (by decide) ?_
                  refine lv_idiv C.1 C.2.1 dX12_streamed_270 (by decide) ?_
                  refine m_i (y := nI (t / 4)) (pk_div (a := t) (d := 4) (by omega) (by omega) (by omega)) ?_
                  refine m_iald C w (k := 147) (i := t / 4) (n := 16) (wr := true) (by decide) rfl (by omega) (by decide) dX12_streamed_271 ?_
                  refine lv_iadd C.1 C.2.1 dX12_streamed_272 ?_
                  refine lv_bipush (v := 8) C.1 C.2.1 dX12_streamed_273 (by decide) ?_
                  refine lv_iload C.1 C.2.1 dX12_streamed_275 (lv_at hl 0 rfl) ?_
                  refine lv_iconst (v := 4) C.1 C.2.1 dX12_streamed_277 (by decide) ?_
                  refine lv_irem C.1 C.2.1 dX12_streamed_278 (by decide) ?_
                  refine m_i (y := nI (t % 4)) (pk_rem (a := t) (d := 4) (by omega) (by omega) (by omega)) ?_
                  refine lv_imul C.1 C.2.1 dX12_streamed_279 ?_
                  refine m_i (y := nI (8 * (t % 4))) (pk_mul 8 (t % 4)) ?_
                  refine lv_ishr C.1 C.2.1 dX12_streamed_280 ?_
                  refine lv_i2b (v := mm_b (((M_17.1 148 (t / 4)) + (M_17.1 147 (t / 4))) >>> ((nI (8 * (t % 4))) &&& 31))) C.1 C.2.1 dX12_streamed_281 rfl ?_
                  refine m_bast C w (k := 149) (i := t) (n := 64) (x := (mm_b (((M_17.1 148 (t / 4)) + (M_17.1 147 (t / 4))) >>> ((nI (8 * (t % 4))) &&& 31)))) (by decide) rfl (by omega) (by decide) (mm_bb _) dX12_streamed_282 (fun H locs w => ?_)
                  obtain ⟨M_19, eM_19⟩ : ∃ zz, zz = mm_w M_17 149 t (mm_b (((M_17.1 148 (t / 4)) + (M_17.1 147 (t / 4))) >>> ((nI (8 * (t % 4))) &&& 31))) := ⟨_, rfl⟩
                  rw [← eM_19] at w
                  refine lv_iinc (v := (nI (t + 1))) (lv' := [(6, .int (nI (t + 1))), (0, .ref (r (117))), (1, .ref (r (k1))), (2, .int (nI (p1))), (3, .int (v1)), (4, .long (u1))]) C.1 C.2.1 dX12_streamed_283 hl (k := 0) rfl (nI_add t 1) (by decide) rfl (fun ls hl => ?_)
                  refine lv_goto (tgt := 241) C.1 C.2.1 dX12_streamed_286 (by decide) ?_
                  have h9 : lv_has ls 8 [(6, .int (nI (t + 1))), (0, .ref (r (117))), (1, .ref (r (k1))), (2, .int (nI (p1))), (3, .int (v1)), (4, .long (u1))] := lv_sub hl [0, 1, 2, 3, 4, 5] rfl
                  have hlZ : lv_has ls 8 [(6, .int (nI (t + 1))), (0, .ref (r (117))), (1, .ref (r (k1))), (2, .int (nI (p1))), (3, .int (v1)), (4, .long (u1))] := h9
                  have wZ := w
                  subst eM_17 eM_19
                  refine ih (t + 1) (by omega) _ _ _ (wZ) ?_
                  exact hlZ
              exact loop 64 0 (by omega) _ _ ls w hl
            | succ k ih =>
              intro t ht H locs ls w hl
              obtain ⟨M_20, eM_20⟩ : ∃ zz, zz = f_X12_streamed_L143 M_11 t := ⟨_, rfl⟩
              rw [← eM_20] at w
              refine lv_iload C.1 C.2.1 dX12_streamed_143 (lv_at hl 0 rfl) ?_
              refine lv_bipush (v := 10) C.1 C.2.1 dX12_streamed_145 (by decide) ?_
              refine m_icmp_ge (tgt := 238) (a := t) (b := 10) C (by omega) (by omega) dX12_streamed_147 (by decide) (fun h_21 => absurd h_21 (by omega)) (fun _ => ?_)
              refine lv_iconst (v := 0) C.1 C.2.1 dX12_streamed_150 (by decide) ?_
              refine lv_istore (lv' := [(7, .int 0), (6, .int (nI (t))), (0, .ref (r (117))), (1, .ref (r (k1))), (2, .int (nI (p1))), (3, .int (v1)), (4, .long (u1))]) C.1 C.2.1 dX12_streamed_151 hl (by decide) rfl (fun ls hl => ?_)
              have loop1 : ∀ (k t1 : Nat), t1 + k = 4 → ∀ (H : Heap) (locs : List Loc) (ls : Array Slot), mm_W D b0 r (f_X12_streamed_L153 M_20 t1) s H locs → lv_has ls 8 [(7, .int (nI (t1))), (6, .int (nI (t))), (0, .ref (r (117))), (1, .ref (r (k1))), (2, .int (nI (p1))), (3, .int (v1)), (4, .long (u1))] → W p l e (mm_rm 2 45) s m args below meth c H locs 0 0 (MQ below (va_Qv (fun M' => M' = f_X12_streamed k1 p1 v1 u1 M) (mm_U D b0 r) (fun q => b0 ≤ q)) args s 0 0 (fun q => b0 ≤ q)) (F0 m 153 ls []) := by
                intro k
                induction k with
                | zero =>
                  intro t1 ht1 H locs ls w hl
                  obtain rfl : 4 = t1 := by omega
                  obtain ⟨M_22, eM_22⟩ : ∃ zz, zz = f_X12_streamed_L153 M_20 4 := ⟨_, rfl⟩
                  rw [← eM_22] at w
                  refine lv_iload C.1 C.2.1 dX12_streamed_153 (lv_at hl 0 rfl) ?_
                  refine lv_iconst (v := 4) C.1 C.2.1 dX12_streamed_155 (by decide) ?_
                  refine m_icmp_ge (tgt := 185) (a := 4) (b := 4) C (by omega) (by omega) dX12_streamed_156 (by decide) (fun _ => ?_) (fun h_23 => absurd h_23 (by omega))
                  refine lv_iconst (v := 0) C.1 C.2.1 dX12_streamed_185 (by decide) ?_
                  refine lv_istore (lv' := [(7, .int 0), (6, .int (nI (t))), (0, .ref (r (117))), (1, .ref (r (k1))), (2, .int (nI (p1))), (3, .int (v1)), (4, .long (u1))]) C.1 C.2.1 dX12_streamed_186 hl (by decide) rfl (fun ls hl => ?_)
                  have loop1 : ∀ (k t1 : Nat), t1 + k = 4 → ∀ (H : Heap) (locs : List Loc) (ls : Array Slot), mm_W D b0 r (f_X12_streamed_L188 M_22 t1) s H locs → lv_has ls 8 [(7, .int (nI (t1))), (6, .int (nI (t))), (0, .ref (r (117))), (1, .ref (r (k1))), (2, .int (nI (p1))), (3, .int (v1)), (4, .long (u1))] → W p l e (mm_rm 2 45) s m args below meth c H locs 0 0 (MQ below (va_Qv (fun M' => M' = f_X12_streamed k1 p1 v1 u1 M) (mm_U D b0 r) (fun q => b0 ≤ q)) args s 0 0 (fun q => b0 ≤ q)) (F0 m 188 ls []) := by
                    intro k
                    induction k with
                    | zero =>
                      intro t1 ht1 H locs ls w hl
                      obtain rfl : 4 = t1 := by omega
                      obtain ⟨M_24, eM_24⟩ : ∃ zz, zz = f_X12_streamed_L188 M_22 4 := ⟨_, rfl⟩
                      rw [← eM_24] at w
                      refine lv_iload C.1 C.2.1 dX12_streamed_188 (lv_at hl 0 rfl) ?_
                      refine lv_iconst (v := 4) C.1 C.2.1 dX12_streamed_190 (by decide) ?_
                      refine m_icmp_ge (tgt := 232) (a := 4) (b := 4) C (by omega) (by omega) dX12_streamed_191 (by decide) (fun _ => ?_) (fun h_25 => absurd h_25 (by omega))
                      refine lv_iinc (v := (nI (t + 1))) (lv' := [(6, .int (nI (t + 1))), (7, .int (nI (4))), (0, .ref (r (117))), (1, .ref (r (k1))), (2, .int (nI (p1))), (3, .int (v1)), (4, .long (u1))]) C.1 C.2.1 dX12_streamed_232 hl (k := 1) rfl (nI_add t 1) (by decide) rfl (fun ls hl => ?_)
                      refine lv_goto (tgt := 143) C.1 C.2.1 dX12_streamed_235 (by decide) ?_
                      have h9 : lv_has ls 8 [(6, .int (nI (t + 1))), (0, .ref (r (117))), (1, .ref (r (k1))), (2, .int (nI (p1))), (3, .int (v1)), (4, .long (u1))] := lv_sub hl [0, 2, 3, 4, 5, 6] rfl
                      have hlZ : lv_has ls 8 [(6, .int (nI (t + 1))), (0, .ref (r (117))), (1, .ref (r (k1))), (2, .int (nI (p1))), (3, .int (v1)), (4, .long (u1))] := h9
                      have wZ := w
                      subst eM_20 eM_22 eM_24
                      refine ih (t + 1) (by omega) _ _ _ (wZ) ?_
                      exact hlZ
                    | succ k ih =>
                      intro t1 ht1 H locs ls w hl
                      obtain ⟨M_26, eM_26⟩ : ∃ zz, zz = f_X12_streamed_L188 M_22 t1 := ⟨_, rfl⟩
                      rw [← eM_26] at w
                      refine lv_iload C.1 C.2.1 dX12_streamed_188 (lv_at hl 0 rfl) ?_
                      refine lv_iconst (v := 4) C.1 C.2.1 dX12_streamed_190 (by decide) ?_
                      refine m_icmp_ge (tgt := 232) (a := t1) (b := 4) C (by omega) (by omega) dX12_streamed_191 (by decide) (fun h_27 => absurd h_27 (by omega)) (fun _ => ?_)
                      refine lv_aload_n C.1 C.2.1 dX12_streamed_194 rfl (lv_at hl 2 rfl) ?_
                      refine lv_iload C.1 C.2.1 dX12_streamed_195 (lv_at hl 0 rfl) ?_
                      refine lv_iconst (v := 4) C.1 C.2.1 dX12_streamed_197 (by decide) ?_
                      refine lv_iload C.1 C.2.1 dX12_streamed_198 (lv_at hl 0 rfl) ?_
                      refine lv_iconst (v := 1) C.1 C.2.1 dX12_streamed_200 (by decide) ?_
                      refine lv_iadd C.1 C.2.1 dX12_streamed_201 ?_
                      refine m_i (y := nI (t1 + 1)) (nI_add t1 1) ?_
                      refine lv_iconst (v := 4) C.1 C.2.1 dX12_streamed_202 (by decide) ?_
                      refine lv_irem C.1 C.2.1 dX12_streamed_203 (by decide) ?_
                      refine m_i (y := nI ((t1 + 1) % 4)) (pk_rem (a := t1 + 1) (d := 4) (by omega) (by omega) (by omega)) ?_
                      refine lv_iadd C.1 C.2.1 dX12_streamed_204 ?_
                      refine m_i (y := nI (4 + ((t1 + 1) % 4))) (nI_add 4 ((t1 + 1) % 4)) ?_
                      refine lv_bipush (v := 8) C.1 C.2.1 dX12_streamed_205 (by decide) ?_
                      refine lv_iload C.1 C.2.1 dX12_streamed_207 (lv_at hl 0 rfl) ?_
                      refine lv_iconst (v := 2) C.1 C.2.1 dX12_streamed_209 (by decide) ?_
                      refine lv_iadd C.1 C.2.1 dX12_streamed_210 ?_
                      refine m_i (y := nI (t1 + 2)) (nI_add t1 2) ?_
                      refine lv_iconst (v := 4) C.1 C.2.1 dX12_streamed_211 (by decide) ?_
                      refine lv_irem C.1 C.2.1 dX12_streamed_212 (by decide) ?_
                      refine m_i (y := nI ((t1 + 2) % 4)) (pk_rem (a := t1 + 2) (d := 4) (by omega) (by omega) (by omega)) ?_
                      refine lv_iadd C.1 C.2.1 dX12_streamed_213 ?_
                      refine m_i (y := nI (8 + ((t1 + 2) % 4))) (nI_add 8 ((t1 + 2) % 4)) ?_
                      refine lv_bipush (v := 12) C.1 C.2.1 dX12_streamed_214 (by decide) ?_
                      refine lv_iload C.1 C.2.1 dX12_streamed_216 (lv_at hl 0 rfl) ?_
                      refine lv_iconst (v := 3) C.1 C.2.1 dX12_streamed_218 (by decide) ?_
                      refine lv_iadd C.1 C.2.1 dX12_streamed_219 ?_
                      refine m_i (y := nI (t1 + 3)) (nI_add t1 3) ?_
                      refine lv_iconst (v := 4) C.1 C.2.1 dX12_streamed_220 (by decide) ?_
                      refine lv_irem C.1 C.2.1 dX12_streamed_221 (by decide) ?_
                      refine m_i (y := nI ((t1 + 3) % 4)) (pk_rem (a := t1 + 3) (d := 4) (by omega) (by omega) (by omega)) ?_
                      refine lv_iadd C.1 C.2.1 dX12_streamed_222 ?_
                      refine m_i (y := nI (12 + ((t1 + 3) % 4))) (nI_add 12 ((t1 + 3) % 4)) ?_
                      refine m_cvv C w hl cvX12_334 (k := 117) (by decide) rfl (q := (RX12, TX12, 58)) rfl rfl (As := [.int (nI (t1)), .int (nI (4 + ((t1 + 1) % 4))), .int (nI (8 + ((t1 + 2) % 4))), .int (nI (12 + ((t1 + 3) % 4)))]) (rest := []) (c_X12_quarter l D b0 r M_26 t1 (4 + ((t1 + 1) % 4)) (8 + ((t1 + 2) % 4)) (12 + ((t1 + 3) % 4)) (by omega) (by omega) (by omega) (by omega)) rfl rfl (Nat.le_of_ble_eq_true rfl) ⟨Nat.le_of_ble_eq_true rfl, Nat.le_of_ble_eq_true rfl⟩ ⟨Nat.zero_le _, Nat.zero_le _⟩ dX12_streamed_223 (fun M_28 H locs eM_28 w => ?_)
                      refine lv_iinc (v := (nI (t1 + 1))) (lv' := [(7, .int (nI (t1 + 1))), (6, .int (nI (t))), (0, .ref (r (117))), (1, .ref (r (k1))), (2, .int (nI (p1))), (3, .int (v1)), (4, .long (u1))]) C.1 C.2.1 dX12_streamed_226 hl (k := 0) rfl (nI_add t1 1) (by decide) rfl (fun ls hl => ?_)
                      refine lv_goto (tgt := 188) C.1 C.2.1 dX12_streamed_229 (by decide) ?_
                      have h9 : lv_has ls 8 [(7, .int (nI (t1 + 1))), (6, .int (nI (t))), (0, .ref (r (117))), (1, .ref (r (k1))), (2, .int (nI (p1))), (3, .int (v1)), (4, .long (u1))] := lv_sub hl [0, 1, 2, 3, 4, 5, 6] rfl
                      have hlZ : lv_has ls 8 [(7, .int (nI (t1 + 1))), (6, .int (nI (t))), (0, .ref (r (117))), (1, .ref (r (k1))), (2, .int (nI (p1))), (3, .int (v1)), (4, .long (u1))] := h9
                      have wZ := w
                      subst eM_26 eM_28
                      refine ih (t1 + 1) (by omega) _ _ _ (wZ) ?_
                      exact hlZ
                  exact loop1 4 0 (by omega) _ _ ls w hl
                | succ k ih =>
                  intro t1 ht1 H locs ls w hl
                  obtain ⟨M_29, eM_29⟩ : ∃ zz, zz = f_X12_streamed_L153 M_20 t1 := ⟨_, rfl⟩
                  rw [← eM_29] at w
                  refine lv_iload C.1 C.2.1 dX12_streamed_153 (lv_at hl 0 rfl) ?_
                  refine lv_iconst (v := 4) C.1 C.2.1 dX12_streamed_155 (by decide) ?_
                  refine m_icmp_ge (tgt := 185) (a := t1) (b := 4) C (by omega) (by omega) dX12_streamed_156 (by decide) (fun h_30 => absurd h_30 (by omega)) (fun _ => ?_)
                  refine lv_aload_n C.1 C.2.1 dX12_streamed_159 rfl (lv_at hl 2 rfl) ?_
                  refine lv_iload C.1 C.2.1 dX12_streamed_160 (lv_at hl 0 rfl) ?_
                  refine lv_iconst (v := 4) C.1 C.2.1 dX12_streamed_162 (by decide) ?_
                  refine lv_iload C.1 C.2.1 dX12_streamed_163 (lv_at hl 0 rfl) ?_
                  refine lv_iadd C.1 C.2.1 dX12_streamed_165 ?_
                  refine m_i (y := nI (4 + t1)) (nI_add 4 t1) ?_
                  refine lv_bipush (v := 8) C.1 C.2.1 dX12_streamed_166 (by decide) ?_
                  refine lv_iload C.1 C.2.1 dX12_streamed_168 (lv_at hl 0 rfl) ?_
                  refine lv_iadd C.1 C.2.1 dX12_streamed_170 ?_
                  refine m_i (y := nI (8 + t1)) (nI_add 8 t1) ?_
                  refine lv_bipush (v := 12) C.1 C.2.1 dX12_streamed_171 (by decide) ?_
                  refine lv_iload C.1 C.2.1 dX12_streamed_173 (lv_at hl 0 rfl) ?_
                  refine lv_iadd C.1 C.2.1 dX12_streamed_175 ?_
                  refine m_i (y := nI (12 + t1)) (nI_add 12 t1) ?_
                  refine m_cvv C w hl cvX12_334 (k := 117) (by decide) rfl (q := (RX12, TX12, 58)) rfl rfl (As := [.int (nI (t1)), .int (nI (4 + t1)), .int (nI (8 + t1)), .int (nI (12 + t1))]) (rest := []) (c_X12_quarter l D b0 r M_29 t1 (4 + t1) (8 + t1) (12 + t1) (by omega) (by omega) (by omega) (by omega)) rfl rfl (Nat.le_of_ble_eq_true rfl) ⟨Nat.le_of_ble_eq_true rfl, Nat.le_of_ble_eq_true rfl⟩ ⟨Nat.zero_le _, Nat.zero_le _⟩ dX12_streamed_176 (fun M_31 H locs eM_31 w => ?_)
                  refine lv_iinc (v := (nI (t1 + 1))) (lv' := [(7, .int (nI (t1 + 1))), (6, .int (nI (t))), (0, .ref (r (117))), (1, .ref (r (k1))), (2, .int (nI (p1))), (3, .int (v1)), (4, .long (u1))]) C.1 C.2.1 dX12_streamed_179 hl (k := 0) rfl (nI_add t1 1) (by decide) rfl (fun ls hl => ?_)
                  refine lv_goto (tgt := 153) C.1 C.2.1 dX12_streamed_182 (by decide) ?_
                  have h9 : lv_has ls 8 [(7, .int (nI (t1 + 1))), (6, .int (nI (t))), (0, .ref (r (117))), (1, .ref (r (k1))), (2, .int (nI (p1))), (3, .int (v1)), (4, .long (u1))] := lv_sub hl [0, 1, 2, 3, 4, 5, 6] rfl
                  have hlZ : lv_has ls 8 [(7, .int (nI (t1 + 1))), (6, .int (nI (t))), (0, .ref (r (117))), (1, .ref (r (k1))), (2, .int (nI (p1))), (3, .int (v1)), (4, .long (u1))] := h9
                  have wZ := w
                  subst eM_29 eM_31
                  refine ih (t1 + 1) (by omega) _ _ _ (wZ) ?_
                  exact hlZ
              exact loop1 4 0 (by omega) _ _ ls w hl
          exact loop 10 0 (by omega) _ _ ls w hl
        | succ k ih =>
          intro t ht H locs ls w hl
          obtain ⟨M_32, eM_32⟩ : ∃ zz, zz = f_X12_streamed_L113 M_10 t := ⟨_, rfl⟩
          rw [← eM_32] at w
          refine lv_iload C.1 C.2.1 dX12_streamed_113 (lv_at hl 0 rfl) ?_
          refine lv_bipush (v := 16) C.1 C.2.1 dX12_streamed_115 (by decide) ?_
          refine m_icmp_ge (tgt := 140) (a := t) (b := 16) C (by omega) (by omega) dX12_streamed_117 (by decide) (fun h_33 => absurd h_33 (by omega)) (fun _ => ?_)
          refine lv_aload_n C.1 C.2.1 dX12_streamed_120 rfl (lv_at hl 1 rfl) ?_
          refine m_get C w (k := 117) (j := 33) (v := .ref (r (148))) flX12_174 (by decide) rfl rfl dX12_streamed_121 ?_
          refine lv_iload C.1 C.2.1 dX12_streamed_124 (lv_at hl 0 rfl) ?_
          refine lv_aload_n C.1 C.2.1 dX12_streamed_126 rfl (lv_at hl 1 rfl) ?_
          refine m_get C w (k := 117) (j := 32) (v := .ref (r (147))) flX12_171 (by decide) rfl rfl dX12_streamed_127 ?_
          refine lv_iload C.1 C.2.1 dX12_streamed_130 (lv_at hl 0 rfl) ?_
          refine m_iald C w (k := 147) (i := t) (n := 16) (wr := true) (by decide) rfl (by omega) (by decide) dX12_streamed_132 ?_
          refine m_iast C w (k := 148) (i := t) (n := 16) (x := (M_32.1 147 t)) (by decide) rfl (by omega) (by decide) dX12_streamed_133 (fun H locs w => ?_)
          obtain ⟨M_34, eM_34⟩ : ∃ zz, zz = mm_w M_32 148 t (M_32.1 147 t) := ⟨_, rfl⟩
          rw [← eM_34] at w
          refine lv_iinc (v := (nI (t + 1))) (lv' := [(6, .int (nI (t + 1))), (0, .ref (r (117))), (1, .ref (r (k1))), (2, .int (nI (p1))), (3, .int (v1)), (4, .long (u1))]) C.1 C.2.1 dX12_streamed_134 hl (k := 0) rfl (nI_add t 1) (by decide) rfl (fun ls hl => ?_)
          refine lv_goto (tgt := 113) C.1 C.2.1 dX12_streamed_137 (by decide) ?_
          have h9 : lv_has ls 8 [(6, .int (nI (t + 1))), (0, .ref (r (117))), (1, .ref (r (k1))), (2, .int (nI (p1))), (3, .int (v1)), (4, .long (u1))] := lv_sub hl [0, 1, 2, 3, 4, 5] rfl
          have hlZ : lv_has ls 8 [(6, .int (nI (t + 1))), (0, .ref (r (117))), (1, .ref (r (k1))), (2, .int (nI (p1))), (3, .int (v1)), (4, .long (u1))] := h9
          have wZ := w
          subst eM_32 eM_34
          refine ih (t + 1) (by omega) _ _ _ (wZ) ?_
          exact hlZ
      exact loop 16 0 (by omega) _ _ ls w hl
    | succ k ih =>
      intro t ht H locs ls w hl
      obtain ⟨M_35, eM_35⟩ : ∃ zz, zz = f_X12_streamed_L39 k1 p1 M_4 t := ⟨_, rfl⟩
      rw [← eM_35] at w
      refine lv_iload C.1 C.2.1 dX12_streamed_39 (lv_at hl 0 rfl) ?_
      refine lv_bipush (v := 8) C.1 C.2.1 dX12_streamed_41 (by decide) ?_
      refine m_icmp_ge (tgt := 71) (a := t) (b := 8) C (by omega) (by omega) dX12_streamed_43 (by decide) (fun h_36 => absurd h_36 (by omega)) (fun _ => ?_)
      refine lv_aload_n C.1 C.2.1 dX12_streamed_46 rfl (lv_at hl 1 rfl) ?_
      refine m_get C w (k := 117) (j := 32) (v := .ref (r (147))) flX12_171 (by decide) rfl rfl dX12_streamed_47 ?_
      refine lv_iconst (v := 4) C.1 C.2.1 dX12_streamed_50 (by decide) ?_
      refine lv_iload C.1 C.2.1 dX12_streamed_51 (lv_at hl 0 rfl) ?_
      refine lv_iadd C.1 C.2.1 dX12_streamed_53 ?_
      refine m_i (y := nI (4 + t)) (nI_add 4 t) ?_
      refine lv_aload_n C.1 C.2.1 dX12_streamed_54 rfl (lv_at hl 2 rfl) ?_
      refine lv_iload_n C.1 C.2.1 dX12_streamed_55 rfl (lv_at hl 3 rfl) ?_
      refine lv_iconst (v := 4) C.1 C.2.1 dX12_streamed_56 (by decide) ?_
      refine lv_iload C.1 C.2.1 dX12_streamed_57 (lv_at hl 0 rfl) ?_
      refine lv_imul C.1 C.2.1 dX12_streamed_59 ?_
      refine m_i (y := nI (4 * t)) (pk_mul 4 t) ?_
      refine lv_iadd C.1 C.2.1 dX12_streamed_60 ?_
      refine m_i (y := nI (p1 + (4 * t))) (nI_add p1 (4 * t)) ?_
      refine m_csi C w hl csX12_330 (As := [.ref (r (k1)), .int (nI (p1 + (4 * t)))]) (rest := [.int (nI (4 + t)), .ref (r (147))]) (c_X12_number l D b0 r M_35 k1 (p1 + (4 * t)) hk1 hs1 hn1 (by omega) (by omega)) rfl rfl (Nat.le_of_ble_eq_true rfl) ⟨Nat.le_of_ble_eq_true rfl, Nat.le_of_ble_eq_true rfl⟩ ⟨Nat.zero_le _, Nat.zero_le _⟩ dX12_streamed_61 (fun v_37 M9 H locs e9 w => ?_)
      obtain ⟨ev_37, e9⟩ := e9
      rw [e9] at w
      subst ev_37
      refine m_iast C w (k := 147) (i := 4 + t) (n := 16) (x := (f_X12_number k1 (p1 + (4 * t)) M_35)) (by decide) rfl (by omega) (by decide) dX12_streamed_64 (fun H locs w => ?_)
      obtain ⟨M_38, eM_38⟩ : ∃ zz, zz = mm_w M_35 147 (4 + t) (f_X12_number k1 (p1 + (4 * t)) M_35) := ⟨_, rfl⟩
      rw [← eM_38] at w
      refine lv_iinc (v := (nI (t + 1))) (lv' := [(6, .int (nI (t + 1))), (0, .ref (r (117))), (1, .ref (r (k1))), (2, .int (nI (p1))), (3, .int (v1)), (4, .long (u1))]) C.1 C.2.1 dX12_streamed_65 hl (k := 0) rfl (nI_add t 1) (by decide) rfl (fun ls hl => ?_)
      refine lv_goto (tgt := 39) C.1 C.2.1 dX12_streamed_68 (by decide) ?_
      have h9 : lv_has ls 8 [(6, .int (nI (t + 1))), (0, .ref (r (117))), (1, .ref (r (k1))), (2, .int (nI (p1))), (3, .int (v1)), (4, .long (u1))] := lv_sub hl [0, 1, 2, 3, 4, 5] rfl
      have hlZ : lv_has ls 8 [(6, .int (nI (t + 1))), (0, .ref (r (117))), (1, .ref (r (k1))), (2, .int (nI (p1))), (3, .int (v1)), (4, .long (u1))] := h9
      have wZ := w
      subst eM_35 eM_38
      refine ih (t + 1) (by omega) _ _ _ (wZ) ?_
      exact hlZ
  exact loop 8 0 (by omega) _ _ ls w hl

def f_X12_plus_L4 (k1 : Nat) (σ : mm_M × Int32) : Nat → mm_M × Int32
  | 0 => σ
  | t + 1 =>
  let M_4 := (f_X12_plus_L4 k1 σ t).1
  let y_5 := (f_X12_plus_L4 k1 σ t).2
  let x2_7 := (y_5) + ((M_4.1 150 t) + (M_4.1 k1 t))
  let M_8 := mm_w M_4 150 t ((x2_7) &&& (255 : Int32))
  let x2_9 := (x2_7) >>> ((8 : Int32) &&& 31)
  (M_8, (x2_9))
theorem w_f_X12_plus_L4 (k1 : Nat) (σ : mm_M × Int32) : ∀ t : Nat, mm_fr1 [150] σ.1 (f_X12_plus_L4 k1 σ t)
  | 0 => mm_fr_refl _ _
  | t + 1 => have ih := (w_f_X12_plus_L4 k1 σ t).m
    (mm_fr_w (by simp) ih).a
def f_X12_plus (k1 : Nat) (M : mm_M) : mm_M :=
  let M_1 := (f_X12_plus_L4 k1 (M, (0 : Int32)) 17).1
  let y_2 := (f_X12_plus_L4 k1 (M, (0 : Int32)) 17).2
  M_1
theorem w_f_X12_plus (k1 : Nat) (M : mm_M) : mm_fr [150] M (f_X12_plus k1 M) := by
  unfold f_X12_plus
  exact ((w_f_X12_plus_L4 _ _ 17).m.on (by simp) (mm_fr_refl _ _))
set_option maxHeartbeats 4000000 in
set_option maxRecDepth 100000 in
theorem c_X12_plus (l : Launch) (D : va_G) (b0 : Nat) (r : Nat → Nat) (M : mm_M) (k1 : Nat) {n1 : Nat} {w1 : Bool} (hk1 : k1 < 181) (hs1 : mm_sh k1 = .inl (.int, n1, w1)) (hn1 : n1 < 2 ^ 31) (hp1 : 17 ≤ n1) : mm_Mv l yX12_plus cX12_plus 4 0 0 D b0 r [.ref (r (117)), .ref (r (k1))] M (fun M' => M' = f_X12_plus k1 M) := by
  refine mm_enter (cc := cX12_plus) (nL := 4) (ret := none) (by decide) (Nat.le_of_ble_eq_true rfl) ?_
  intro p e s m args below meth c C w ls hl
  have hl : lv_has ls 4 [(0, .ref (r (117))), (1, .ref (r (k1)))] := hl
  refine lv_iconst (v := 0) C.1 C.2.1 dX12_plus_0 (by decide) ?_
  refine lv_istore_n (lv' := [(2, .int 0), (0, .ref (r (117))), (1, .ref (r (k1)))]) C.1 C.2.1 dX12_plus_1 rfl hl (by decide) rfl (fun ls hl => ?_)
  refine lv_iconst (v := 0) C.1 C.2.1 dX12_plus_2 (by decide) ?_
  refine lv_istore_n (lv' := [(3, .int 0), (2, .int 0), (0, .ref (r (117))), (1, .ref (r (k1)))]) C.1 C.2.1 dX12_plus_3 rfl hl (by decide) rfl (fun ls hl => ?_)
  have loop : ∀ (k t : Nat), t + k = 17 → ∀ (H : Heap) (locs : List Loc) (ls : Array Slot), mm_W D b0 r ((f_X12_plus_L4 k1 (M, (0 : Int32)) t).1) s H locs → lv_has ls 4 [(3, .int (nI (t))), (2, .int ((f_X12_plus_L4 k1 (M, (0 : Int32)) t).2)), (0, .ref (r (117))), (1, .ref (r (k1)))] → W p l e (mm_rm 0 0) s m args below meth c H locs 0 0 (MQ below (va_Qv (fun M' => M' = f_X12_plus k1 M) (mm_U D b0 r) (fun q => b0 ≤ q)) args s 0 0 (fun q => b0 ≤ q)) (F0 m 4 ls []) := by
    intro k
    induction k with
    | zero =>
      intro t ht H locs ls w hl
      obtain rfl : 17 = t := by omega
      obtain ⟨M_1, eM_1⟩ : ∃ zz, zz = (f_X12_plus_L4 k1 (M, (0 : Int32)) 17).1 := ⟨_, rfl⟩
      rw [← eM_1] at w
      obtain ⟨y_2, ey_2⟩ : ∃ zz, zz = (f_X12_plus_L4 k1 (M, (0 : Int32)) 17).2 := ⟨_, rfl⟩
      rw [← ey_2] at hl
      refine lv_iload_n C.1 C.2.1 dX12_plus_4 rfl (lv_at hl 0 rfl) ?_
      refine lv_bipush (v := 17) C.1 C.2.1 dX12_plus_5 (by decide) ?_
      refine m_icmp_ge (tgt := 45) (a := 17) (b := 17) C (by omega) (by omega) dX12_plus_7 (by decide) (fun _ => ?_) (fun h_3 => absurd h_3 (by omega))
      exact m_vret C w (by subst eM_1 ey_2; exact Eq.symm (rfl)) dX12_plus_45
    | succ k ih =>
      intro t ht H locs ls w hl
      obtain ⟨M_4, eM_4⟩ : ∃ zz, zz = (f_X12_plus_L4 k1 (M, (0 : Int32)) t).1 := ⟨_, rfl⟩
      rw [← eM_4] at w
      obtain ⟨y_5, ey_5⟩ : ∃ zz, zz = (f_X12_plus_L4 k1 (M, (0 : Int32)) t).2 := ⟨_, rfl⟩
      rw [← ey_5] at hl
      refine lv_iload_n C.1 C.2.1 dX12_plus_4 rfl (lv_at hl 0 rfl) ?_
      refine lv_bipush (v := 17) C.1 C.2.1 dX12_plus_5 (by decide) ?_
      refine m_icmp_ge (tgt := 45) (a := t) (b := 17) C (by omega) (by omega) dX12_plus_7 (by decide) (fun h_6 => absurd h_6 (by omega)) (fun _ => ?_)
      refine lv_iload_n C.1 C.2.1 dX12_plus_10 rfl (lv_at hl 1 rfl) ?_
      refine lv_aload_n C.1 C.2.1 dX12_plus_11 rfl (lv_at hl 2 rfl) ?_
      refine m_get C w (k := 117) (j := 35) (v := .ref (r (150))) flX12_180 (by decide) rfl rfl dX12_plus_12 ?_
      refine lv_iload_n C.1 C.2.1 dX12_plus_15 rfl (lv_at hl 0 rfl) ?_
      refine m_iald C w (k := 150) (i := t) (n := 17) (wr := true) (by decide) rfl (by omega) (by decide) dX12_plus_16 ?_
      refine lv_aload_n C.1 C.2.1 dX12_plus_17 rfl (lv_at hl 3 rfl) ?_
      refine lv_iload_n C.1 C.2.1 dX12_plus_18 rfl (lv_at hl 0 rfl) ?_
      refine m_iald C w (k := k1) (i := t) (n := n1) (wr := w1) hk1 hs1 (by omega) hn1 dX12_plus_19 ?_
      refine lv_iadd C.1 C.2.1 dX12_plus_20 ?_
      refine lv_iadd C.1 C.2.1 dX12_plus_21 ?_
      refine lv_topi (fun x2_7 ex2_7 => ?_)
      refine lv_istore_n (lv' := [(2, .int (x2_7)), (3, .int (nI (t))), (0, .ref (r (117))), (1, .ref (r (k1)))]) C.1 C.2.1 dX12_plus_22 rfl hl (by decide) rfl (fun ls hl => ?_)
      refine lv_aload_n C.1 C.2.1 dX12_plus_23 rfl (lv_at hl 2 rfl) ?_
      refine m_get C w (k := 117) (j := 35) (v := .ref (r (150))) flX12_180 (by decide) rfl rfl dX12_plus_24 ?_
      refine lv_iload_n C.1 C.2.1 dX12_plus_27 rfl (lv_at hl 1 rfl) ?_
      refine lv_iload_n C.1 C.2.1 dX12_plus_28 rfl (lv_at hl 0 rfl) ?_
      refine lv_sipush (v := 255) C.1 C.2.1 dX12_plus_29 (by decide) ?_
      refine lv_iand C.1 C.2.1 dX12_plus_32 ?_
      refine m_iast C w (k := 150) (i := t) (n := 17) (x := ((x2_7) &&& (255 : Int32))) (by decide) rfl (by omega) (by decide) dX12_plus_33 (fun H locs w => ?_)
      obtain ⟨M_8, eM_8⟩ : ∃ zz, zz = mm_w M_4 150 t ((x2_7) &&& (255 : Int32)) := ⟨_, rfl⟩
      rw [← eM_8] at w
      refine lv_iload_n C.1 C.2.1 dX12_plus_34 rfl (lv_at hl 0 rfl) ?_
      refine lv_bipush (v := 8) C.1 C.2.1 dX12_plus_35 (by decide) ?_
      refine lv_ishr C.1 C.2.1 dX12_plus_37 ?_
      refine lv_topi (fun x2_9 ex2_9 => ?_)
      refine lv_istore_n (lv' := [(2, .int (x2_9)), (3, .int (nI (t))), (0, .ref (r (117))), (1, .ref (r (k1)))]) C.1 C.2.1 dX12_plus_38 rfl hl (by decide) rfl (fun ls hl => ?_)
      refine lv_iinc (v := (nI (t + 1))) (lv' := [(3, .int (nI (t + 1))), (2, .int (x2_9)), (0, .ref (r (117))), (1, .ref (r (k1)))]) C.1 C.2.1 dX12_plus_39 hl (k := 1) rfl (nI_add t 1) (by decide) rfl (fun ls hl => ?_)
      refine lv_goto (tgt := 4) C.1 C.2.1 dX12_plus_42 (by decide) ?_
      have h9 : lv_has ls 4 [(3, .int (nI (t + 1))), (2, .int (x2_9)), (0, .ref (r (117))), (1, .ref (r (k1)))] := lv_sub hl [0, 1, 2, 3] rfl
      have hlZ : lv_has ls 4 [(3, .int (nI (t + 1))), (2, .int (x2_9)), (0, .ref (r (117))), (1, .ref (r (k1)))] := h9
      have wZ := w
      subst eM_4 ey_5 ex2_7 eM_8 ex2_9
      refine ih (t + 1) (by omega) _ _ _ (wZ) ?_
      exact hlZ
  exact loop 17 0 (by omega) _ _ ls w hl

def f_X12_tagBegins_L107  (σ : mm_M) : Nat → mm_M
  | 0 => σ
  | t + 1 =>
  let M_9 := f_X12_tagBegins_L107 σ t
  let M_11 := mm_w M_9 151 (4 + t * 4) ((M_9.1 151 (4 + t * 4)) &&& (252 : Int32))
  M_11
theorem w_f_X12_tagBegins_L107  (σ : mm_M) : ∀ t : Nat, mm_fr [151] σ (f_X12_tagBegins_L107 σ t)
  | 0 => mm_fr_refl _ _
  | t + 1 => have ih := w_f_X12_tagBegins_L107 σ t
    (mm_fr_w (by simp) ih)
def f_X12_tagBegins_L79  (σ : mm_M) : Nat → mm_M
  | 0 => σ
  | t + 1 =>
  let M_12 := f_X12_tagBegins_L79 σ t
  let M_14 := mm_w M_12 151 (3 + t * 4) ((M_12.1 151 (3 + t * 4)) &&& (15 : Int32))
  M_14
theorem w_f_X12_tagBegins_L79  (σ : mm_M) : ∀ t : Nat, mm_fr [151] σ (f_X12_tagBegins_L79 σ t)
  | 0 => mm_fr_refl _ _
  | t + 1 => have ih := w_f_X12_tagBegins_L79 σ t
    (mm_fr_w (by simp) ih)
def f_X12_tagBegins_B1 (t : Nat) (M_17 : mm_M) : mm_M :=
  if 16 ≤ t then (let M_19 := mm_w M_17 151 t (0 : Int32)
  M_19) else (let M_20 := mm_w M_17 151 t ((M_17.1 155 t) &&& (255 : Int32))
  M_20)
theorem w_f_X12_tagBegins_B1 (t : Nat) (M_17 : mm_M) : mm_fr [151] M_17 (f_X12_tagBegins_B1 t M_17) := by
  unfold f_X12_tagBegins_B1
  exact (mm_fr_ite (fun _ => (mm_fr_w (by simp) (mm_fr_refl _ _))) (fun _ => (mm_fr_w (by simp) (mm_fr_refl _ _))))
def f_X12_tagBegins_L26  (σ : mm_M) : Nat → mm_M
  | 0 => σ
  | t + 1 =>
  let M_15 := f_X12_tagBegins_L26 σ t
  let M_17 := mm_w M_15 150 t (0 : Int32)
  f_X12_tagBegins_B1 t M_17
theorem w_f_X12_tagBegins_L26  (σ : mm_M) : ∀ t : Nat, mm_fr [150, 151] σ (f_X12_tagBegins_L26 σ t)
  | 0 => mm_fr_refl _ _
  | t + 1 => have ih := w_f_X12_tagBegins_L26 σ t
    ((w_f_X12_tagBegins_B1 _ _).on (by simp) (mm_fr_w (by simp) ih))
def f_X12_tagBegins (k1 : Nat) (p1 : Nat) (u1 : Int64) (M : mm_M) : mm_M :=
  let M_1 := f_X12_streamed k1 p1 (0 : Int32) (u1) M
  let M_2 := f_X12_copy 149 0 155 0 32 M_1
  let M_3 := f_X12_tagBegins_L26 M_2 17
  let M_5 := f_X12_tagBegins_L79 M_3 4
  let M_7 := f_X12_tagBegins_L107 M_5 3
  M_7
theorem w_f_X12_tagBegins (k1 : Nat) (p1 : Nat) (u1 : Int64) (M : mm_M) : mm_fr [147, 149, 148, 155, 151, 150] M (f_X12_tagBegins k1 p1 u1 M) := by
  unfold f_X12_tagBegins
  exact ((w_f_X12_tagBegins_L107 _ 3).on (by simp) ((w_f_X12_tagBegins_L79 _ 4).on (by simp) ((w_f_X12_tagBegins_L26 _ 17).on (by simp) ((w_f_X12_copy _ _ _ _ _ _).on (by simp) ((w_f_X12_streamed _ _ _ _ _).on (by simp) (mm_fr_refl _ _))))))
set_option maxHeartbeats 4000000 in
set_option maxRecDepth 100000 in
theorem c_X12_tagBegins (l : Launch) (D : va_G) (b0 : Nat) (r : Nat → Nat) (M : mm_M) (k1 : Nat) (p1 : Nat) (u1 : Int64) {n1 : Nat} {w1 : Bool} (hk1 : k1 < 181) (hs1 : mm_sh k1 = .inl (.byte, n1, w1)) (hn1 : n1 < 2 ^ 31) (hp1 : p1 + 32 ≤ n1) (hq1 : n1 < 2 ^ 30) : mm_Mv l yX12_tagBegins cX12_tagBegins 6 3 72 D b0 r [.ref (r (117)), .ref (r (k1)), .int (nI (p1)), .long (u1)] M (fun M' => M' = f_X12_tagBegins k1 p1 u1 M) := by
  refine mm_enter (cc := cX12_tagBegins) (nL := 6) (ret := none) (by decide) (Nat.le_of_ble_eq_true rfl) ?_
  intro p e s m args below meth c C w ls hl
  have hl : lv_has ls 6 [(0, .ref (r (117))), (1, .ref (r (k1))), (2, .int (nI (p1))), (3, .long (u1))] := hl
  refine lv_aload_n C.1 C.2.1 dX12_tagBegins_0 rfl (lv_at hl 0 rfl) ?_
  refine lv_aload_n C.1 C.2.1 dX12_tagBegins_1 rfl (lv_at hl 1 rfl) ?_
  refine lv_iload_n C.1 C.2.1 dX12_tagBegins_2 rfl (lv_at hl 2 rfl) ?_
  refine lv_iconst (v := 0) C.1 C.2.1 dX12_tagBegins_3 (by decide) ?_
  refine lv_lload_n C.1 C.2.1 dX12_tagBegins_4 rfl (lv_at hl 3 rfl) ?_
  refine m_cvv C w hl cvX12_338 (k := 117) (by decide) rfl (q := (RX12, TX12, 58)) rfl rfl (As := [.ref (r (k1)), .int (nI (p1)), .int 0, .long (u1)]) (rest := []) (c_X12_streamed l D b0 r M k1 p1 (0 : Int32) (u1) hk1 hs1 hn1 (by omega) (by omega)) rfl rfl (Nat.le_of_ble_eq_true rfl) ⟨Nat.le_of_ble_eq_true rfl, Nat.le_of_ble_eq_true rfl⟩ ⟨Nat.zero_le _, Nat.zero_le _⟩ dX12_tagBegins_5 (fun M_1 H locs eM_1 w => ?_)
  refine lv_aload_n C.1 C.2.1 dX12_tagBegins_8 rfl (lv_at hl 0 rfl) ?_
  refine m_get C w (k := 117) (j := 34) (v := .ref (r (149))) flX12_177 (by decide) rfl rfl dX12_tagBegins_9 ?_
  refine lv_iconst (v := 0) C.1 C.2.1 dX12_tagBegins_12 (by decide) ?_
  refine lv_aload_n C.1 C.2.1 dX12_tagBegins_13 rfl (lv_at hl 0 rfl) ?_
  refine m_get C w (k := 117) (j := 40) (v := .ref (r (155))) flX12_195 (by decide) rfl rfl dX12_tagBegins_14 ?_
  refine lv_iconst (v := 0) C.1 C.2.1 dX12_tagBegins_17 (by decide) ?_
  refine lv_bipush (v := 32) C.1 C.2.1 dX12_tagBegins_18 (by decide) ?_
  refine m_csv C w hl csX12_265 (As := [.ref (r (149)), .int 0, .ref (r (155)), .int 0, .int 32]) (rest := []) (c_X12_copy l D b0 r M_1 149 0 155 0 32 (by decide) rfl (by decide) (by omega) (by decide) rfl (by decide) (by omega) (by omega) (by omega)) rfl rfl (Nat.le_of_ble_eq_true rfl) ⟨Nat.le_of_ble_eq_true rfl, Nat.le_of_ble_eq_true rfl⟩ ⟨Nat.zero_le _, Nat.zero_le _⟩ dX12_tagBegins_20 (fun M_2 H locs eM_2 w => ?_)
  refine lv_iconst (v := 0) C.1 C.2.1 dX12_tagBegins_23 (by decide) ?_
  refine lv_istore (lv' := [(5, .int 0), (0, .ref (r (117))), (1, .ref (r (k1))), (2, .int (nI (p1))), (3, .long (u1))]) C.1 C.2.1 dX12_tagBegins_24 hl (by decide) rfl (fun ls hl => ?_)
  have loop : ∀ (k t : Nat), t + k = 17 → ∀ (H : Heap) (locs : List Loc) (ls : Array Slot), mm_W D b0 r (f_X12_tagBegins_L26 M_2 t) s H locs → lv_has ls 6 [(5, .int (nI (t))), (0, .ref (r (117))), (1, .ref (r (k1))), (2, .int (nI (p1))), (3, .long (u1))] → W p l e (mm_rm 3 72) s m args below meth c H locs 0 0 (MQ below (va_Qv (fun M' => M' = f_X12_tagBegins k1 p1 u1 M) (mm_U D b0 r) (fun q => b0 ≤ q)) args s 0 0 (fun q => b0 ≤ q)) (F0 m 26 ls []) := by
    intro k
    induction k with
    | zero =>
      intro t ht H locs ls w hl
      obtain rfl : 17 = t := by omega
      obtain ⟨M_3, eM_3⟩ : ∃ zz, zz = f_X12_tagBegins_L26 M_2 17 := ⟨_, rfl⟩
      rw [← eM_3] at w
      refine lv_iload C.1 C.2.1 dX12_tagBegins_26 (lv_at hl 0 rfl) ?_
      refine lv_bipush (v := 17) C.1 C.2.1 dX12_tagBegins_28 (by decide) ?_
      refine m_icmp_ge (tgt := 76) (a := 17) (b := 17) C (by omega) (by omega) dX12_tagBegins_30 (by decide) (fun _ => ?_) (fun h_4 => absurd h_4 (by omega))
      refine lv_iconst (v := 3) C.1 C.2.1 dX12_tagBegins_76 (by decide) ?_
      refine lv_istore (lv' := [(5, .int 3), (0, .ref (r (117))), (1, .ref (r (k1))), (2, .int (nI (p1))), (3, .long (u1))]) C.1 C.2.1 dX12_tagBegins_77 hl (by decide) rfl (fun ls hl => ?_)
      have loop : ∀ (k t : Nat), t + k = 4 → ∀ (H : Heap) (locs : List Loc) (ls : Array Slot), mm_W D b0 r (f_X12_tagBegins_L79 M_3 t) s H locs → lv_has ls 6 [(5, .int (nI (3 + t * 4))), (0, .ref (r (117))), (1, .ref (r (k1))), (2, .int (nI (p1))), (3, .long (u1))] → W p l e (mm_rm 3 72) s m args below meth c H locs 0 0 (MQ below (va_Qv (fun M' => M' = f_X12_tagBegins k1 p1 u1 M) (mm_U D b0 r) (fun q => b0 ≤ q)) args s 0 0 (fun q => b0 ≤ q)) (F0 m 79 ls []) := by
        intro k
        induction k with
        | zero =>
          intro t ht H locs ls w hl
          obtain rfl : 4 = t := by omega
          obtain ⟨M_5, eM_5⟩ : ∃ zz, zz = f_X12_tagBegins_L79 M_3 4 := ⟨_, rfl⟩
          rw [← eM_5] at w
          refine lv_iload C.1 C.2.1 dX12_tagBegins_79 (lv_at hl 0 rfl) ?_
          refine lv_bipush (v := 16) C.1 C.2.1 dX12_tagBegins_81 (by decide) ?_
          refine m_icmp_ge (tgt := 104) (a := 3 + 4 * 4) (b := 16) C (by omega) (by omega) dX12_tagBegins_83 (by decide) (fun _ => ?_) (fun h_6 => absurd h_6 (by omega))
          refine lv_iconst (v := 4) C.1 C.2.1 dX12_tagBegins_104 (by decide) ?_
          refine lv_istore (lv' := [(5, .int 4), (0, .ref (r (117))), (1, .ref (r (k1))), (2, .int (nI (p1))), (3, .long (u1))]) C.1 C.2.1 dX12_tagBegins_105 hl (by decide) rfl (fun ls hl => ?_)
          have loop : ∀ (k t : Nat), t + k = 3 → ∀ (H : Heap) (locs : List Loc) (ls : Array Slot), mm_W D b0 r (f_X12_tagBegins_L107 M_5 t) s H locs → lv_has ls 6 [(5, .int (nI (4 + t * 4))), (0, .ref (r (117))), (1, .ref (r (k1))), (2, .int (nI (p1))), (3, .long (u1))] → W p l e (mm_rm 3 72) s m args below meth c H locs 0 0 (MQ below (va_Qv (fun M' => M' = f_X12_tagBegins k1 p1 u1 M) (mm_U D b0 r) (fun q => b0 ≤ q)) args s 0 0 (fun q => b0 ≤ q)) (F0 m 107 ls []) := by
            intro k
            induction k with
            | zero =>
              intro t ht H locs ls w hl
              obtain rfl : 3 = t := by omega
              obtain ⟨M_7, eM_7⟩ : ∃ zz, zz = f_X12_tagBegins_L107 M_5 3 := ⟨_, rfl⟩
              rw [← eM_7] at w
              refine lv_iload C.1 C.2.1 dX12_tagBegins_107 (lv_at hl 0 rfl) ?_
              refine lv_bipush (v := 16) C.1 C.2.1 dX12_tagBegins_109 (by decide) ?_
              refine m_icmp_ge (tgt := 133) (a := 4 + 3 * 4) (b := 16) C (by omega) (by omega) dX12_tagBegins_111 (by decide) (fun _ => ?_) (fun h_8 => absurd h_8 (by omega))
              exact m_vret C w (by subst eM_1 eM_2 eM_3 eM_5 eM_7; exact Eq.symm (rfl)) dX12_tagBegins_133
            | succ k ih =>
              intro t ht H locs ls w hl
              obtain ⟨M_9, eM_9⟩ : ∃ zz, zz = f_X12_tagBegins_L107 M_5 t := ⟨_, rfl⟩
              rw [← eM_9] at w
              refine lv_iload C.1 C.2.1 dX12_tagBegins_107 (lv_at hl 0 rfl) ?_
              refine lv_bipush (v := 16) C.1 C.2.1 dX12_tagBegins_109 (by decide) ?_
              refine m_icmp_ge (tgt := 133) (a := 4 + t * 4) (b := 16) C (by omega) (by omega) dX12_tagBegins_111 (by decide) (fun h_10 => absurd h_10 (by omega)) (fun _ => ?_)
              refine lv_aload_n C.1 C.2.1 dX12_tagBegins_114 rfl (lv_at hl 1 rfl) ?_
              refine m_get C w (k := 117) (j := 36) (v := .ref (r (151))) flX12_183 (by decide) rfl rfl dX12_tagBegins_115 ?_
              refine lv_iload C.1 C.2.1 dX12_tagBegins_118 (lv_at hl 0 rfl) ?_
              refine lv_dup2_11 C.1 C.2.1 dX12_tagBegins_120 rfl rfl ?_
              refine m_iald C w (k := 151) (i := 4 + t * 4) (n := 17) (wr := true) (by decide) rfl (by omega) (by decide) dX12_tagBegins_121 ?_
              refine lv_sipush (v := 252) C.1 C.2.1 dX12_tagBegins_122 (by decide) ?_
              refine lv_iand C.1 C.2.1 dX12_tagBegins_125 ?_
              refine m_iast C w (k := 151) (i := 4 + t * 4) (n := 17) (x := ((M_9.1 151 (4 + t * 4)) &&& (252 : Int32))) (by decide) rfl (by omega) (by decide) dX12_tagBegins_126 (fun H locs w => ?_)
              obtain ⟨M_11, eM_11⟩ : ∃ zz, zz = mm_w M_9 151 (4 + t * 4) ((M_9.1 151 (4 + t * 4)) &&& (252 : Int32)) := ⟨_, rfl⟩
              rw [← eM_11] at w
              refine lv_iinc (v := (nI (4 + t * 4 + 4))) (lv' := [(5, .int (nI (4 + t * 4 + 4))), (0, .ref (r (117))), (1, .ref (r (k1))), (2, .int (nI (p1))), (3, .long (u1))]) C.1 C.2.1 dX12_tagBegins_127 hl (k := 0) rfl (nI_add (4 + t * 4) 4) (by decide) rfl (fun ls hl => ?_)
              refine lv_goto (tgt := 107) C.1 C.2.1 dX12_tagBegins_130 (by decide) ?_
              have h9 : lv_has ls 6 [(5, .int (nI (4 + t * 4 + 4))), (0, .ref (r (117))), (1, .ref (r (k1))), (2, .int (nI (p1))), (3, .long (u1))] := lv_sub hl [0, 1, 2, 3, 4] rfl
              rw [show ((nI (4 + t * 4 + 4)) : Int32) = (nI (4 + (t + 1) * 4)) from (by first | rfl | (congr 1; omega))] at h9
              have hlZ : lv_has ls 6 [(5, .int (nI (4 + (t + 1) * 4))), (0, .ref (r (117))), (1, .ref (r (k1))), (2, .int (nI (p1))), (3, .long (u1))] := h9
              have wZ := w
              subst eM_9 eM_11
              refine ih (t + 1) (by omega) _ _ _ (wZ) ?_
              exact hlZ
          exact loop 3 0 (by omega) _ _ ls w (by have h9 := hl; first | exact h9 | simpa using h9)
        | succ k ih =>
          intro t ht H locs ls w hl
          obtain ⟨M_12, eM_12⟩ : ∃ zz, zz = f_X12_tagBegins_L79 M_3 t := ⟨_, rfl⟩
          rw [← eM_12] at w
          refine lv_iload C.1 C.2.1 dX12_tagBegins_79 (lv_at hl 0 rfl) ?_
          refine lv_bipush (v := 16) C.1 C.2.1 dX12_tagBegins_81 (by decide) ?_
          refine m_icmp_ge (tgt := 104) (a := 3 + t * 4) (b := 16) C (by omega) (by omega) dX12_tagBegins_83 (by decide) (fun h_13 => absurd h_13 (by omega)) (fun _ => ?_)
          refine lv_aload_n C.1 C.2.1 dX12_tagBegins_86 rfl (lv_at hl 1 rfl) ?_
          refine m_get C w (k := 117) (j := 36) (v := .ref (r (151))) flX12_183 (by decide) rfl rfl dX12_tagBegins_87 ?_
          refine lv_iload C.1 C.2.1 dX12_tagBegins_90 (lv_at hl 0 rfl) ?_
          refine lv_dup2_11 C.1 C.2.1 dX12_tagBegins_92 rfl rfl ?_
          refine m_iald C w (k := 151) (i := 3 + t * 4) (n := 17) (wr := true) (by decide) rfl (by omega) (by decide) dX12_tagBegins_93 ?_
          refine lv_bipush (v := 15) C.1 C.2.1 dX12_tagBegins_94 (by decide) ?_
          refine lv_iand C.1 C.2.1 dX12_tagBegins_96 ?_
          refine m_iast C w (k := 151) (i := 3 + t * 4) (n := 17) (x := ((M_12.1 151 (3 + t * 4)) &&& (15 : Int32))) (by decide) rfl (by omega) (by decide) dX12_tagBegins_97 (fun H locs w => ?_)
          obtain ⟨M_14, eM_14⟩ : ∃ zz, zz = mm_w M_12 151 (3 + t * 4) ((M_12.1 151 (3 + t * 4)) &&& (15 : Int32)) := ⟨_, rfl⟩
          rw [← eM_14] at w
          refine lv_iinc (v := (nI (3 + t * 4 + 4))) (lv' := [(5, .int (nI (3 + t * 4 + 4))), (0, .ref (r (117))), (1, .ref (r (k1))), (2, .int (nI (p1))), (3, .long (u1))]) C.1 C.2.1 dX12_tagBegins_98 hl (k := 0) rfl (nI_add (3 + t * 4) 4) (by decide) rfl (fun ls hl => ?_)
          refine lv_goto (tgt := 79) C.1 C.2.1 dX12_tagBegins_101 (by decide) ?_
          have h9 : lv_has ls 6 [(5, .int (nI (3 + t * 4 + 4))), (0, .ref (r (117))), (1, .ref (r (k1))), (2, .int (nI (p1))), (3, .long (u1))] := lv_sub hl [0, 1, 2, 3, 4] rfl
          rw [show ((nI (3 + t * 4 + 4)) : Int32) = (nI (3 + (t + 1) * 4)) from (by first | rfl | (congr 1; omega))] at h9
          have hlZ : lv_has ls 6 [(5, .int (nI (3 + (t + 1) * 4))), (0, .ref (r (117))), (1, .ref (r (k1))), (2, .int (nI (p1))), (3, .long (u1))] := h9
          have wZ := w
          subst eM_12 eM_14
          refine ih (t + 1) (by omega) _ _ _ (wZ) ?_
          exact hlZ
      exact loop 4 0 (by omega) _ _ ls w (by have h9 := hl; first | exact h9 | simpa using h9)
    | succ k ih =>
      intro t ht H locs ls w hl
      obtain ⟨M_15, eM_15⟩ : ∃ zz, zz = f_X12_tagBegins_L26 M_2 t := ⟨_, rfl⟩
      rw [← eM_15] at w
      refine lv_iload C.1 C.2.1 dX12_tagBegins_26 (lv_at hl 0 rfl) ?_
      refine lv_bipush (v := 17) C.1 C.2.1 dX12_tagBegins_28 (by decide) ?_
      refine m_icmp_ge (tgt := 76) (a := t) (b := 17) C (by omega) (by omega) dX12_tagBegins_30 (by decide) (fun h_16 => absurd h_16 (by omega)) (fun _ => ?_)
      refine lv_aload_n C.1 C.2.1 dX12_tagBegins_33 rfl (lv_at hl 1 rfl) ?_
      refine m_get C w (k := 117) (j := 35) (v := .ref (r (150))) flX12_180 (by decide) rfl rfl dX12_tagBegins_34 ?_
      refine lv_iload C.1 C.2.1 dX12_tagBegins_37 (lv_at hl 0 rfl) ?_
      refine lv_iconst (v := 0) C.1 C.2.1 dX12_tagBegins_39 (by decide) ?_
      refine m_iast C w (k := 150) (i := t) (n := 17) (x := (0 : Int32)) (by decide) rfl (by omega) (by decide) dX12_tagBegins_40 (fun H locs w => ?_)
      obtain ⟨M_17, eM_17⟩ : ∃ zz, zz = mm_w M_15 150 t (0 : Int32) := ⟨_, rfl⟩
      rw [← eM_17] at w
      refine lv_aload_n C.1 C.2.1 dX12_tagBegins_41 rfl (lv_at hl 1 rfl) ?_
      refine m_get C w (k := 117) (j := 36) (v := .ref (r (151))) flX12_183 (by decide) rfl rfl dX12_tagBegins_42 ?_
      refine lv_iload C.1 C.2.1 dX12_tagBegins_45 (lv_at hl 0 rfl) ?_
      refine lv_iload C.1 C.2.1 dX12_tagBegins_47 (lv_at hl 0 rfl) ?_
      refine lv_bipush (v := 16) C.1 C.2.1 dX12_tagBegins_49 (by decide) ?_
      refine m_icmp_ge (tgt := 68) (a := t) (b := 16) C (by omega) (by omega) dX12_tagBegins_51 (by decide) (fun h_18 => ?_) (fun h_18 => ?_)
      · refine lv_iconst (v := 0) C.1 C.2.1 dX12_tagBegins_68 (by decide) ?_
        refine m_iast C w (k := 151) (i := t) (n := 17) (x := (0 : Int32)) (by decide) rfl (by omega) (by decide) dX12_tagBegins_69 (fun H locs w => ?_)
        obtain ⟨M_19, eM_19⟩ : ∃ zz, zz = mm_w M_17 151 t (0 : Int32) := ⟨_, rfl⟩
        rw [← eM_19] at w
        refine lv_iinc (v := (nI (t + 1))) (lv' := [(5, .int (nI (t + 1))), (0, .ref (r (117))), (1, .ref (r (k1))), (2, .int (nI (p1))), (3, .long (u1))]) C.1 C.2.1 dX12_tagBegins_70 hl (k := 0) rfl (nI_add t 1) (by decide) rfl (fun ls hl => ?_)
        refine lv_goto (tgt := 26) C.1 C.2.1 dX12_tagBegins_73 (by decide) ?_
        have h9 : lv_has ls 6 [(5, .int (nI (t + 1))), (0, .ref (r (117))), (1, .ref (r (k1))), (2, .int (nI (p1))), (3, .long (u1))] := lv_sub hl [0, 1, 2, 3, 4] rfl
        have hlZ : lv_has ls 6 [(5, .int (nI (t + 1))), (0, .ref (r (117))), (1, .ref (r (k1))), (2, .int (nI (p1))), (3, .long (u1))] := h9
        have wZ := w
        subst eM_15 eM_17 eM_19
        refine ih (t + 1) (by omega) _ _ _ (m_w (Eq.symm (congrArg (fun z => z) (show f_X12_tagBegins_L26 M_2 (t + 1) = _ from ((if_pos h_18).trans rfl)))) wZ) ?_
        exact hlZ
      · refine lv_aload_n C.1 C.2.1 dX12_tagBegins_54 rfl (lv_at hl 1 rfl) ?_
        refine m_get C w (k := 117) (j := 40) (v := .ref (r (155))) flX12_195 (by decide) rfl rfl dX12_tagBegins_55 ?_
        refine lv_iload C.1 C.2.1 dX12_tagBegins_58 (lv_at hl 0 rfl) ?_
        refine m_bald C w (k := 155) (i := t) (n := 32) (wr := true) (by decide) rfl (by omega) (by decide) dX12_tagBegins_60 ?_
        refine lv_sipush (v := 255) C.1 C.2.1 dX12_tagBegins_61 (by decide) ?_
        refine lv_iand C.1 C.2.1 dX12_tagBegins_64 ?_
        refine lv_goto (tgt := 69) C.1 C.2.1 dX12_tagBegins_65 (by decide) ?_
        refine m_iast C w (k := 151) (i := t) (n := 17) (x := ((M_17.1 155 t) &&& (255 : Int32))) (by decide) rfl (by omega) (by decide) dX12_tagBegins_69 (fun H locs w => ?_)
        obtain ⟨M_20, eM_20⟩ : ∃ zz, zz = mm_w M_17 151 t ((M_17.1 155 t) &&& (255 : Int32)) := ⟨_, rfl⟩
        rw [← eM_20] at w
        refine lv_iinc (v := (nI (t + 1))) (lv' := [(5, .int (nI (t + 1))), (0, .ref (r (117))), (1, .ref (r (k1))), (2, .int (nI (p1))), (3, .long (u1))]) C.1 C.2.1 dX12_tagBegins_70 hl (k := 0) rfl (nI_add t 1) (by decide) rfl (fun ls hl => ?_)
        refine lv_goto (tgt := 26) C.1 C.2.1 dX12_tagBegins_73 (by decide) ?_
        have h9 : lv_has ls 6 [(5, .int (nI (t + 1))), (0, .ref (r (117))), (1, .ref (r (k1))), (2, .int (nI (p1))), (3, .long (u1))] := lv_sub hl [0, 1, 2, 3, 4] rfl
        have hlZ : lv_has ls 6 [(5, .int (nI (t + 1))), (0, .ref (r (117))), (1, .ref (r (k1))), (2, .int (nI (p1))), (3, .long (u1))] := h9
        have wZ := w
        subst eM_15 eM_17 eM_20
        refine ih (t + 1) (by omega) _ _ _ (m_w (Eq.symm (congrArg (fun z => z) (show f_X12_tagBegins_L26 M_2 (t + 1) = _ from ((if_neg (Nat.not_le.mpr h_18)).trans rfl)))) wZ) ?_
        exact hlZ
  exact loop 17 0 (by omega) _ _ ls w hl

def f_X12_tagged_L159  (σ : mm_M × Int32) : Nat → mm_M × Int32
  | 0 => σ
  | t + 1 =>
  let M_14 := (f_X12_tagged_L159 σ t).1
  let y_15 := (f_X12_tagged_L159 σ t).2
  let x1_17 := (y_15) + (M_14.1 150 t)
  let M_18 := mm_w M_14 150 t ((x1_17) &&& (255 : Int32))
  let x1_19 := mm_us (x1_17) (8 : Int32)
  (M_18, (x1_19))
theorem w_f_X12_tagged_L159  (σ : mm_M × Int32) : ∀ t : Nat, mm_fr1 [150] σ.1 (f_X12_tagged_L159 σ t)
  | 0 => mm_fr_refl _ _
  | t + 1 => have ih := (w_f_X12_tagged_L159 σ t).m
    (mm_fr_w (by simp) ih).a
def f_X12_tagged_L94  (σ : mm_M × Int32) : Nat → mm_M × Int32
  | 0 => σ
  | t + 1 =>
  let M_20 := (f_X12_tagged_L94 σ t).1
  let y_21 := (f_X12_tagged_L94 σ t).2
  let x1_23 := (y_21) + (M_20.1 153 t)
  let M_24 := mm_w M_20 150 t ((x1_23) &&& (255 : Int32))
  let x1_25 := mm_us (x1_23) (8 : Int32)
  (M_24, (x1_25))
theorem w_f_X12_tagged_L94  (σ : mm_M × Int32) : ∀ t : Nat, mm_fr1 [150] σ.1 (f_X12_tagged_L94 σ t)
  | 0 => mm_fr_refl _ _
  | t + 1 => have ih := (w_f_X12_tagged_L94 σ t).m
    (mm_fr_w (by simp) ih).a
def f_X12_tagged_B1 (t : Nat) (t1 : Nat) (M_31 : mm_M) : mm_M :=
  if t < t1 then (let M_34 := mm_w M_31 153 t ((M_31.1 153 t) + ((M_31.1 150 t1) * ((320 : Int32) * (M_31.1 151 ((t + 17) - t1)))))
  M_34) else (let M_35 := mm_w M_31 153 t ((M_31.1 153 t) + ((M_31.1 150 t1) * (M_31.1 151 (t - t1))))
  M_35)
theorem w_f_X12_tagged_B1 (t : Nat) (t1 : Nat) (M_31 : mm_M) : mm_fr [153] M_31 (f_X12_tagged_B1 t t1 M_31) := by
  unfold f_X12_tagged_B1
  exact (mm_fr_ite (fun _ => (mm_fr_w (by simp) (mm_fr_refl _ _))) (fun _ => (mm_fr_w (by simp) (mm_fr_refl _ _))))
def f_X12_tagged_L25 (t : Nat) (σ : mm_M) : Nat → mm_M
  | 0 => σ
  | t1 + 1 =>
  let M_31 := f_X12_tagged_L25 t σ t1
  f_X12_tagged_B1 t t1 M_31
theorem w_f_X12_tagged_L25 (t : Nat) (σ : mm_M) : ∀ t1 : Nat, mm_fr [153] σ (f_X12_tagged_L25 t σ t1)
  | 0 => mm_fr_refl _ _
  | t1 + 1 => have ih := w_f_X12_tagged_L25 t σ t1
    ((w_f_X12_tagged_B1 _ _ _).on (by simp) ih)
def f_X12_tagged_L10  (σ : mm_M) : Nat → mm_M
  | 0 => σ
  | t + 1 =>
  let M_26 := f_X12_tagged_L10 σ t
  let M_28 := mm_w M_26 153 t (0 : Int32)
  let M_29 := f_X12_tagged_L25 t M_28 17
  M_29
theorem w_f_X12_tagged_L10  (σ : mm_M) : ∀ t : Nat, mm_fr [153] σ (f_X12_tagged_L10 σ t)
  | 0 => mm_fr_refl _ _
  | t + 1 => have ih := w_f_X12_tagged_L10 σ t
    ((w_f_X12_tagged_L25 _ _ 17).on (by simp) (mm_fr_w (by simp) ih))
def f_X12_tagged  (M : mm_M) : mm_M :=
  let M_1 := f_X12_plus 152 M
  let M_2 := f_X12_tagged_L10 M_1 17
  let M_4 := (f_X12_tagged_L94 (M_2, (0 : Int32)) 16).1
  let y_5 := (f_X12_tagged_L94 (M_2, (0 : Int32)) 16).2
  let x1_7 := (y_5) + (M_4.1 153 16)
  let M_8 := mm_w M_4 150 16 ((x1_7) &&& (3 : Int32))
  let x1_9 := (5 : Int32) * (mm_us (x1_7) (2 : Int32))
  let M_10 := (f_X12_tagged_L159 (M_8, (x1_9)) 16).1
  let y_11 := (f_X12_tagged_L159 (M_8, (x1_9)) 16).2
  let M_13 := mm_w M_10 150 16 ((M_10.1 150 16) + (y_11))
  M_13
theorem w_f_X12_tagged  (M : mm_M) : mm_fr [150, 153] M (f_X12_tagged  M) := by
  unfold f_X12_tagged
  exact (mm_fr_w (by simp) ((w_f_X12_tagged_L159 _ 16).m.on (by simp) (mm_fr_w (by simp) ((w_f_X12_tagged_L94 _ 16).m.on (by simp) ((w_f_X12_tagged_L10 _ 17).on (by simp) ((w_f_X12_plus _ _).on (by simp) (mm_fr_refl _ _)))))))
set_option maxHeartbeats 4000000 in
set_option maxRecDepth 100000 in
theorem c_X12_tagged (l : Launch) (D : va_G) (b0 : Nat) (r : Nat → Nat) (M : mm_M)   : mm_Mv l yX12_tagged cX12_tagged 3 1 23 D b0 r [.ref (r (117))] M (fun M' => M' = f_X12_tagged  M) := by
  refine mm_enter (cc := cX12_tagged) (nL := 3) (ret := none) (by decide) (Nat.le_of_ble_eq_true rfl) ?_
  intro p e s m args below meth c C w ls hl
  have hl : lv_has ls 3 [(0, .ref (r (117)))] := hl
  refine lv_aload_n C.1 C.2.1 dX12_tagged_0 rfl (lv_at hl 0 rfl) ?_
  refine lv_aload_n C.1 C.2.1 dX12_tagged_1 rfl (lv_at hl 0 rfl) ?_
  refine m_get C w (k := 117) (j := 37) (v := .ref (r (152))) flX12_186 (by decide) rfl rfl dX12_tagged_2 ?_
  refine m_cvv C w hl cvX12_342 (k := 117) (by decide) rfl (q := (RX12, TX12, 58)) rfl rfl (As := [.ref (r (152))]) (rest := []) (c_X12_plus l D b0 r M 152 (by decide) rfl (by decide) (by omega)) rfl rfl (Nat.le_of_ble_eq_true rfl) ⟨Nat.le_of_ble_eq_true rfl, Nat.le_of_ble_eq_true rfl⟩ ⟨Nat.zero_le _, Nat.zero_le _⟩ dX12_tagged_5 (fun M_1 H locs eM_1 w => ?_)
  refine lv_iconst (v := 0) C.1 C.2.1 dX12_tagged_8 (by decide) ?_
  refine lv_istore_n (lv' := [(1, .int 0), (0, .ref (r (117)))]) C.1 C.2.1 dX12_tagged_9 rfl hl (by decide) rfl (fun ls hl => ?_)
  have loop : ∀ (k t : Nat), t + k = 17 → ∀ (H : Heap) (locs : List Loc) (ls : Array Slot), mm_W D b0 r (f_X12_tagged_L10 M_1 t) s H locs → lv_has ls 3 [(1, .int (nI (t))), (0, .ref (r (117)))] → W p l e (mm_rm 1 23) s m args below meth c H locs 0 0 (MQ below (va_Qv (fun M' => M' = f_X12_tagged  M) (mm_U D b0 r) (fun q => b0 ≤ q)) args s 0 0 (fun q => b0 ≤ q)) (F0 m 10 ls []) := by
    intro k
    induction k with
    | zero =>
      intro t ht H locs ls w hl
      obtain rfl : 17 = t := by omega
      obtain ⟨M_2, eM_2⟩ : ∃ zz, zz = f_X12_tagged_L10 M_1 17 := ⟨_, rfl⟩
      rw [← eM_2] at w
      refine lv_iload_n C.1 C.2.1 dX12_tagged_10 rfl (lv_at hl 0 rfl) ?_
      refine lv_bipush (v := 17) C.1 C.2.1 dX12_tagged_11 (by decide) ?_
      refine m_icmp_ge (tgt := 90) (a := 17) (b := 17) C (by omega) (by omega) dX12_tagged_13 (by decide) (fun _ => ?_) (fun h_3 => absurd h_3 (by omega))
      refine lv_iconst (v := 0) C.1 C.2.1 dX12_tagged_90 (by decide) ?_
      refine lv_istore_n (lv' := [(1, .int 0), (0, .ref (r (117)))]) C.1 C.2.1 dX12_tagged_91 rfl hl (by decide) rfl (fun ls hl => ?_)
      refine lv_iconst (v := 0) C.1 C.2.1 dX12_tagged_92 (by decide) ?_
      refine lv_istore_n (lv' := [(2, .int 0), (1, .int 0), (0, .ref (r (117)))]) C.1 C.2.1 dX12_tagged_93 rfl hl (by decide) rfl (fun ls hl => ?_)
      have loop : ∀ (k t : Nat), t + k = 16 → ∀ (H : Heap) (locs : List Loc) (ls : Array Slot), mm_W D b0 r ((f_X12_tagged_L94 (M_2, (0 : Int32)) t).1) s H locs → lv_has ls 3 [(2, .int (nI (t))), (1, .int ((f_X12_tagged_L94 (M_2, (0 : Int32)) t).2)), (0, .ref (r (117)))] → W p l e (mm_rm 1 23) s m args below meth c H locs 0 0 (MQ below (va_Qv (fun M' => M' = f_X12_tagged  M) (mm_U D b0 r) (fun q => b0 ≤ q)) args s 0 0 (fun q => b0 ≤ q)) (F0 m 94 ls []) := by
        intro k
        induction k with
        | zero =>
          intro t ht H locs ls w hl
          obtain rfl : 16 = t := by omega
          obtain ⟨M_4, eM_4⟩ : ∃ zz, zz = (f_X12_tagged_L94 (M_2, (0 : Int32)) 16).1 := ⟨_, rfl⟩
          rw [← eM_4] at w
          obtain ⟨y_5, ey_5⟩ : ∃ zz, zz = (f_X12_tagged_L94 (M_2, (0 : Int32)) 16).2 := ⟨_, rfl⟩
          rw [← ey_5] at hl
          refine lv_iload_n C.1 C.2.1 dX12_tagged_94 rfl (lv_at hl 0 rfl) ?_
          refine lv_bipush (v := 16) C.1 C.2.1 dX12_tagged_95 (by decide) ?_
          refine m_icmp_ge (tgt := 131) (a := 16) (b := 16) C (by omega) (by omega) dX12_tagged_97 (by decide) (fun _ => ?_) (fun h_6 => absurd h_6 (by omega))
          refine lv_iload_n C.1 C.2.1 dX12_tagged_131 rfl (lv_at hl 1 rfl) ?_
          refine lv_aload_n C.1 C.2.1 dX12_tagged_132 rfl (lv_at hl 2 rfl) ?_
          refine m_get C w (k := 117) (j := 38) (v := .ref (r (153))) flX12_189 (by decide) rfl rfl dX12_tagged_133 ?_
          refine lv_bipush (v := 16) C.1 C.2.1 dX12_tagged_136 (by decide) ?_
          refine m_iald C w (k := 153) (i := 16) (n := 17) (wr := true) (by decide) rfl (by omega) (by decide) dX12_tagged_138 ?_
          refine lv_iadd C.1 C.2.1 dX12_tagged_139 ?_
          refine lv_topi (fun x1_7 ex1_7 => ?_)
          refine lv_istore_n (lv' := [(1, .int (x1_7)), (2, .int (nI (16))), (0, .ref (r (117)))]) C.1 C.2.1 dX12_tagged_140 rfl hl (by decide) rfl (fun ls hl => ?_)
          refine lv_aload_n C.1 C.2.1 dX12_tagged_141 rfl (lv_at hl 2 rfl) ?_
          refine m_get C w (k := 117) (j := 35) (v := .ref (r (150))) flX12_180 (by decide) rfl rfl dX12_tagged_142 ?_
          refine lv_bipush (v := 16) C.1 C.2.1 dX12_tagged_145 (by decide) ?_
          refine lv_iload_n C.1 C.2.1 dX12_tagged_147 rfl (lv_at hl 0 rfl) ?_
          refine lv_iconst (v := 3) C.1 C.2.1 dX12_tagged_148 (by decide) ?_
          refine lv_iand C.1 C.2.1 dX12_tagged_149 ?_
          refine m_iast C w (k := 150) (i := 16) (n := 17) (x := ((x1_7) &&& (3 : Int32))) (by decide) rfl (by omega) (by decide) dX12_tagged_150 (fun H locs w => ?_)
          obtain ⟨M_8, eM_8⟩ : ∃ zz, zz = mm_w M_4 150 16 ((x1_7) &&& (3 : Int32)) := ⟨_, rfl⟩
          rw [← eM_8] at w
          refine lv_iconst (v := 5) C.1 C.2.1 dX12_tagged_151 (by decide) ?_
          refine lv_iload_n C.1 C.2.1 dX12_tagged_152 rfl (lv_at hl 0 rfl) ?_
          refine lv_iconst (v := 2) C.1 C.2.1 dX12_tagged_153 (by decide) ?_
          refine lv_iushr (v := mm_us (x1_7) (2 : Int32)) C.1 C.2.1 dX12_tagged_154 rfl ?_
          refine lv_imul C.1 C.2.1 dX12_tagged_155 ?_
          refine lv_topi (fun x1_9 ex1_9 => ?_)
          refine lv_istore_n (lv' := [(1, .int (x1_9)), (2, .int (nI (16))), (0, .ref (r (117)))]) C.1 C.2.1 dX12_tagged_156 rfl hl (by decide) rfl (fun ls hl => ?_)
          refine lv_iconst (v := 0) C.1 C.2.1 dX12_tagged_157 (by decide) ?_
          refine lv_istore_n (lv' := [(2, .int 0), (1, .int (x1_9)), (0, .ref (r (117)))]) C.1 C.2.1 dX12_tagged_158 rfl hl (by decide) rfl (fun ls hl => ?_)
          have loop : ∀ (k t : Nat), t + k = 16 → ∀ (H : Heap) (locs : List Loc) (ls : Array Slot), mm_W D b0 r ((f_X12_tagged_L159 (M_8, (x1_9)) t).1) s H locs → lv_has ls 3 [(2, .int (nI (t))), (1, .int ((f_X12_tagged_L159 (M_8, (x1_9)) t).2)), (0, .ref (r (117)))] → W p l e (mm_rm 1 23) s m args below meth c H locs 0 0 (MQ below (va_Qv (fun M' => M' = f_X12_tagged  M) (mm_U D b0 r) (fun q => b0 ≤ q)) args s 0 0 (fun q => b0 ≤ q)) (F0 m 159 ls []) := by
            intro k
            induction k with
            | zero =>
              intro t ht H locs ls w hl
              obtain rfl : 16 = t := by omega
              obtain ⟨M_10, eM_10⟩ : ∃ zz, zz = (f_X12_tagged_L159 (M_8, (x1_9)) 16).1 := ⟨_, rfl⟩
              rw [← eM_10] at w
              obtain ⟨y_11, ey_11⟩ : ∃ zz, zz = (f_X12_tagged_L159 (M_8, (x1_9)) 16).2 := ⟨_, rfl⟩
              rw [← ey_11] at hl
              refine lv_iload_n C.1 C.2.1 dX12_tagged_159 rfl (lv_at hl 0 rfl) ?_
              refine lv_bipush (v := 16) C.1 C.2.1 dX12_tagged_160 (by decide) ?_
              refine m_icmp_ge (tgt := 196) (a := 16) (b := 16) C (by omega) (by omega) dX12_tagged_162 (by decide) (fun _ => ?_) (fun h_12 => absurd h_12 (by omega))
              refine lv_aload_n C.1 C.2.1 dX12_tagged_196 rfl (lv_at hl 2 rfl) ?_
              refine m_get C w (k := 117) (j := 35) (v := .ref (r (150))) flX12_180 (by decide) rfl rfl dX12_tagged_197 ?_
              refine lv_bipush (v := 16) C.1 C.2.1 dX12_tagged_200 (by decide) ?_
              refine lv_dup2_11 C.1 C.2.1 dX12_tagged_202 rfl rfl ?_
              refine m_iald C w (k := 150) (i := 16) (n := 17) (wr := true) (by decide) rfl (by omega) (by decide) dX12_tagged_203 ?_
              refine lv_iload_n C.1 C.2.1 dX12_tagged_204 rfl (lv_at hl 1 rfl) ?_
              refine lv_iadd C.1 C.2.1 dX12_tagged_205 ?_
              refine m_iast C w (k := 150) (i := 16) (n := 17) (x := ((M_10.1 150 16) + (y_11))) (by decide) rfl (by omega) (by decide) dX12_tagged_206 (fun H locs w => ?_)
              obtain ⟨M_13, eM_13⟩ : ∃ zz, zz = mm_w M_10 150 16 ((M_10.1 150 16) + (y_11)) := ⟨_, rfl⟩
              rw [← eM_13] at w
              exact m_vret C w (by subst eM_1 eM_2 eM_4 ey_5 ex1_7 eM_8 ex1_9 eM_10 ey_11 eM_13; exact Eq.symm (rfl)) dX12_tagged_207
            | succ k ih =>
              intro t ht H locs ls w hl
              obtain ⟨M_14, eM_14⟩ : ∃ zz, zz = (f_X12_tagged_L159 (M_8, (x1_9)) t).1 := ⟨_, rfl⟩
              rw [← eM_14] at w
              obtain ⟨y_15, ey_15⟩ : ∃ zz, zz = (f_X12_tagged_L159 (M_8, (x1_9)) t).2 := ⟨_, rfl⟩
              rw [← ey_15] at hl
              refine lv_iload_n C.1 C.2.1 dX12_tagged_159 rfl (lv_at hl 0 rfl) ?_
              refine lv_bipush (v := 16) C.1 C.2.1 dX12_tagged_160 (by decide) ?_
              refine m_icmp_ge (tgt := 196) (a := t) (b := 16) C (by omega) (by omega) dX12_tagged_162 (by decide) (fun h_16 => absurd h_16 (by omega)) (fun _ => ?_)
              refine lv_iload_n C.1 C.2.1 dX12_tagged_165 rfl (lv_at hl 1 rfl) ?_
              refine lv_aload_n C.1 C.2.1 dX12_tagged_166 rfl (lv_at hl 2 rfl) ?_
              refine m_get C w (k := 117) (j := 35) (v := .ref (r (150))) flX12_180 (by decide) rfl rfl dX12_tagged_167 ?_
              refine lv_iload_n C.1 C.2.1 dX12_tagged_170 rfl (lv_at hl 0 rfl) ?_
              refine m_iald C w (k := 150) (i := t) (n := 17) (wr := true) (by decide) rfl (by omega) (by decide) dX12_tagged_171 ?_
              refine lv_iadd C.1 C.2.1 dX12_tagged_172 ?_
              refine lv_topi (fun x1_17 ex1_17 => ?_)
              refine lv_istore_n (lv' := [(1, .int (x1_17)), (2, .int (nI (t))), (0, .ref (r (117)))]) C.1 C.2.1 dX12_tagged_173 rfl hl (by decide) rfl (fun ls hl => ?_)
              refine lv_aload_n C.1 C.2.1 dX12_tagged_174 rfl (lv_at hl 2 rfl) ?_
              refine m_get C w (k := 117) (j := 35) (v := .ref (r (150))) flX12_180 (by decide) rfl rfl dX12_tagged_175 ?_
              refine lv_iload_n C.1 C.2.1 dX12_tagged_178 rfl (lv_at hl 1 rfl) ?_
              refine lv_iload_n C.1 C.2.1 dX12_tagged_179 rfl (lv_at hl 0 rfl) ?_
              refine lv_sipush (v := 255) C.1 C.2.1 dX12_tagged_180 (by decide) ?_
              refine lv_iand C.1 C.2.1 dX12_tagged_183 ?_
              refine m_iast C w (k := 150) (i := t) (n := 17) (x := ((x1_17) &&& (255 : Int32))) (by decide) rfl (by omega) (by decide) dX12_tagged_184 (fun H locs w => ?_)
              obtain ⟨M_18, eM_18⟩ : ∃ zz, zz = mm_w M_14 150 t ((x1_17) &&& (255 : Int32)) := ⟨_, rfl⟩
              rw [← eM_18] at w
              refine lv_iload_n C.1 C.2.1 dX12_tagged_185 rfl (lv_at hl 0 rfl) ?_
              refine lv_bipush (v := 8) C.1 C.2.1 dX12_tagged_186 (by decide) ?_
              refine lv_iushr (v := mm_us (x1_17) (8 : Int32)) C.1 C.2.1 dX12_tagged_188 rfl ?_
              refine lv_topi (fun x1_19 ex1_19 => ?_)
              refine lv_istore_n (lv' := [(1, .int (x1_19)), (2, .int (nI (t))), (0, .ref (r (117)))]) C.1 C.2.1 dX12_tagged_189 rfl hl (by decide) rfl (fun ls hl => ?_)
              refine lv_iinc (v := (nI (t + 1))) (lv' := [(2, .int (nI (t + 1))), (1, .int (x1_19)), (0, .ref (r (117)))]) C.1 C.2.1 dX12_tagged_190 hl (k := 1) rfl (nI_add t 1) (by decide) rfl (fun ls hl => ?_)
              refine lv_goto (tgt := 159) C.1 C.2.1 dX12_tagged_193 (by decide) ?_
              have h9 : lv_has ls 3 [(2, .int (nI (t + 1))), (1, .int (x1_19)), (0, .ref (r (117)))] := lv_sub hl [0, 1, 2] rfl
              have hlZ : lv_has ls 3 [(2, .int (nI (t + 1))), (1, .int (x1_19)), (0, .ref (r (117)))] := h9
              have wZ := w
              subst eM_14 ey_15 ex1_17 eM_18 ex1_19
              refine ih (t + 1) (by omega) _ _ _ (wZ) ?_
              exact hlZ
          exact loop 16 0 (by omega) _ _ ls w hl
        | succ k ih =>
          intro t ht H locs ls w hl
          obtain ⟨M_20, eM_20⟩ : ∃ zz, zz = (f_X12_tagged_L94 (M_2, (0 : Int32)) t).1 := ⟨_, rfl⟩
          rw [← eM_20] at w
          obtain ⟨y_21, ey_21⟩ : ∃ zz, zz = (f_X12_tagged_L94 (M_2, (0 : Int32)) t).2 := ⟨_, rfl⟩
          rw [← ey_21] at hl
          refine lv_iload_n C.1 C.2.1 dX12_tagged_94 rfl (lv_at hl 0 rfl) ?_
          refine lv_bipush (v := 16) C.1 C.2.1 dX12_tagged_95 (by decide) ?_
          refine m_icmp_ge (tgt := 131) (a := t) (b := 16) C (by omega) (by omega) dX12_tagged_97 (by decide) (fun h_22 => absurd h_22 (by omega)) (fun _ => ?_)
          refine lv_iload_n C.1 C.2.1 dX12_tagged_100 rfl (lv_at hl 1 rfl) ?_
          refine lv_aload_n C.1 C.2.1 dX12_tagged_101 rfl (lv_at hl 2 rfl) ?_
          refine m_get C w (k := 117) (j := 38) (v := .ref (r (153))) flX12_189 (by decide) rfl rfl dX12_tagged_102 ?_
          refine lv_iload_n C.1 C.2.1 dX12_tagged_105 rfl (lv_at hl 0 rfl) ?_
          refine m_iald C w (k := 153) (i := t) (n := 17) (wr := true) (by decide) rfl (by omega) (by decide) dX12_tagged_106 ?_
          refine lv_iadd C.1 C.2.1 dX12_tagged_107 ?_
          refine lv_topi (fun x1_23 ex1_23 => ?_)
          refine lv_istore_n (lv' := [(1, .int (x1_23)), (2, .int (nI (t))), (0, .ref (r (117)))]) C.1 C.2.1 dX12_tagged_108 rfl hl (by decide) rfl (fun ls hl => ?_)
          refine lv_aload_n C.1 C.2.1 dX12_tagged_109 rfl (lv_at hl 2 rfl) ?_
          refine m_get C w (k := 117) (j := 35) (v := .ref (r (150))) flX12_180 (by decide) rfl rfl dX12_tagged_110 ?_
          refine lv_iload_n C.1 C.2.1 dX12_tagged_113 rfl (lv_at hl 1 rfl) ?_
          refine lv_iload_n C.1 C.2.1 dX12_tagged_114 rfl (lv_at hl 0 rfl) ?_
          refine lv_sipush (v := 255) C.1 C.2.1 dX12_tagged_115 (by decide) ?_
          refine lv_iand C.1 C.2.1 dX12_tagged_118 ?_
          refine m_iast C w (k := 150) (i := t) (n := 17) (x := ((x1_23) &&& (255 : Int32))) (by decide) rfl (by omega) (by decide) dX12_tagged_119 (fun H locs w => ?_)
          obtain ⟨M_24, eM_24⟩ : ∃ zz, zz = mm_w M_20 150 t ((x1_23) &&& (255 : Int32)) := ⟨_, rfl⟩
          rw [← eM_24] at w
          refine lv_iload_n C.1 C.2.1 dX12_tagged_120 rfl (lv_at hl 0 rfl) ?_
          refine lv_bipush (v := 8) C.1 C.2.1 dX12_tagged_121 (by decide) ?_
          refine lv_iushr (v := mm_us (x1_23) (8 : Int32)) C.1 C.2.1 dX12_tagged_123 rfl ?_
          refine lv_topi (fun x1_25 ex1_25 => ?_)
          refine lv_istore_n (lv' := [(1, .int (x1_25)), (2, .int (nI (t))), (0, .ref (r (117)))]) C.1 C.2.1 dX12_tagged_124 rfl hl (by decide) rfl (fun ls hl => ?_)
          refine lv_iinc (v := (nI (t + 1))) (lv' := [(2, .int (nI (t + 1))), (1, .int (x1_25)), (0, .ref (r (117)))]) C.1 C.2.1 dX12_tagged_125 hl (k := 1) rfl (nI_add t 1) (by decide) rfl (fun ls hl => ?_)
          refine lv_goto (tgt := 94) C.1 C.2.1 dX12_tagged_128 (by decide) ?_
          have h9 : lv_has ls 3 [(2, .int (nI (t + 1))), (1, .int (x1_25)), (0, .ref (r (117)))] := lv_sub hl [0, 1, 2] rfl
          have hlZ : lv_has ls 3 [(2, .int (nI (t + 1))), (1, .int (x1_25)), (0, .ref (r (117)))] := h9
          have wZ := w
          subst eM_20 ey_21 ex1_23 eM_24 ex1_25
          refine ih (t + 1) (by omega) _ _ _ (wZ) ?_
          exact hlZ
      exact loop 16 0 (by omega) _ _ ls w hl
    | succ k ih =>
      intro t ht H locs ls w hl
      obtain ⟨M_26, eM_26⟩ : ∃ zz, zz = f_X12_tagged_L10 M_1 t := ⟨_, rfl⟩
      rw [← eM_26] at w
      refine lv_iload_n C.1 C.2.1 dX12_tagged_10 rfl (lv_at hl 0 rfl) ?_
      refine lv_bipush (v := 17) C.1 C.2.1 dX12_tagged_11 (by decide) ?_
      refine m_icmp_ge (tgt := 90) (a := t) (b := 17) C (by omega) (by omega) dX12_tagged_13 (by decide) (fun h_27 => absurd h_27 (by omega)) (fun _ => ?_)
      refine lv_aload_n C.1 C.2.1 dX12_tagged_16 rfl (lv_at hl 1 rfl) ?_
      refine m_get C w (k := 117) (j := 38) (v := .ref (r (153))) flX12_189 (by decide) rfl rfl dX12_tagged_17 ?_
      refine lv_iload_n C.1 C.2.1 dX12_tagged_20 rfl (lv_at hl 0 rfl) ?_
      refine lv_iconst (v := 0) C.1 C.2.1 dX12_tagged_21 (by decide) ?_
      refine m_iast C w (k := 153) (i := t) (n := 17) (x := (0 : Int32)) (by decide) rfl (by omega) (by decide) dX12_tagged_22 (fun H locs w => ?_)
      obtain ⟨M_28, eM_28⟩ : ∃ zz, zz = mm_w M_26 153 t (0 : Int32) := ⟨_, rfl⟩
      rw [← eM_28] at w
      refine lv_iconst (v := 0) C.1 C.2.1 dX12_tagged_23 (by decide) ?_
      refine lv_istore_n (lv' := [(2, .int 0), (1, .int (nI (t))), (0, .ref (r (117)))]) C.1 C.2.1 dX12_tagged_24 rfl hl (by decide) rfl (fun ls hl => ?_)
      have loop1 : ∀ (k t1 : Nat), t1 + k = 17 → ∀ (H : Heap) (locs : List Loc) (ls : Array Slot), mm_W D b0 r (f_X12_tagged_L25 t M_28 t1) s H locs → lv_has ls 3 [(2, .int (nI (t1))), (1, .int (nI (t))), (0, .ref (r (117)))] → W p l e (mm_rm 1 23) s m args below meth c H locs 0 0 (MQ below (va_Qv (fun M' => M' = f_X12_tagged  M) (mm_U D b0 r) (fun q => b0 ≤ q)) args s 0 0 (fun q => b0 ≤ q)) (F0 m 25 ls []) := by
        intro k
        induction k with
        | zero =>
          intro t1 ht1 H locs ls w hl
          obtain rfl : 17 = t1 := by omega
          obtain ⟨M_29, eM_29⟩ : ∃ zz, zz = f_X12_tagged_L25 t M_28 17 := ⟨_, rfl⟩
          rw [← eM_29] at w
          refine lv_iload_n C.1 C.2.1 dX12_tagged_25 rfl (lv_at hl 0 rfl) ?_
          refine lv_bipush (v := 17) C.1 C.2.1 dX12_tagged_26 (by decide) ?_
          refine m_icmp_ge (tgt := 84) (a := 17) (b := 17) C (by omega) (by omega) dX12_tagged_28 (by decide) (fun _ => ?_) (fun h_30 => absurd h_30 (by omega))
          refine lv_iinc (v := (nI (t + 1))) (lv' := [(1, .int (nI (t + 1))), (2, .int (nI (17))), (0, .ref (r (117)))]) C.1 C.2.1 dX12_tagged_84 hl (k := 1) rfl (nI_add t 1) (by decide) rfl (fun ls hl => ?_)
          refine lv_goto (tgt := 10) C.1 C.2.1 dX12_tagged_87 (by decide) ?_
          have h9 : lv_has ls 3 [(1, .int (nI (t + 1))), (0, .ref (r (117)))] := lv_sub hl [0, 2] rfl
          have hlZ : lv_has ls 3 [(1, .int (nI (t + 1))), (0, .ref (r (117)))] := h9
          have wZ := w
          subst eM_26 eM_28 eM_29
          refine ih (t + 1) (by omega) _ _ _ (wZ) ?_
          exact hlZ
        | succ k ih =>
          intro t1 ht1 H locs ls w hl
          obtain ⟨M_31, eM_31⟩ : ∃ zz, zz = f_X12_tagged_L25 t M_28 t1 := ⟨_, rfl⟩
          rw [← eM_31] at w
          refine lv_iload_n C.1 C.2.1 dX12_tagged_25 rfl (lv_at hl 0 rfl) ?_
          refine lv_bipush (v := 17) C.1 C.2.1 dX12_tagged_26 (by decide) ?_
          refine m_icmp_ge (tgt := 84) (a := t1) (b := 17) C (by omega) (by omega) dX12_tagged_28 (by decide) (fun h_32 => absurd h_32 (by omega)) (fun _ => ?_)
          refine lv_aload_n C.1 C.2.1 dX12_tagged_31 rfl (lv_at hl 2 rfl) ?_
          refine m_get C w (k := 117) (j := 38) (v := .ref (r (153))) flX12_189 (by decide) rfl rfl dX12_tagged_32 ?_
          refine lv_iload_n C.1 C.2.1 dX12_tagged_35 rfl (lv_at hl 1 rfl) ?_
          refine lv_dup2_11 C.1 C.2.1 dX12_tagged_36 rfl rfl ?_
          refine m_iald C w (k := 153) (i := t) (n := 17) (wr := true) (by decide) rfl (by omega) (by decide) dX12_tagged_37 ?_
          refine lv_aload_n C.1 C.2.1 dX12_tagged_38 rfl (lv_at hl 2 rfl) ?_
          refine m_get C w (k := 117) (j := 35) (v := .ref (r (150))) flX12_180 (by decide) rfl rfl dX12_tagged_39 ?_
          refine lv_iload_n C.1 C.2.1 dX12_tagged_42 rfl (lv_at hl 0 rfl) ?_
          refine m_iald C w (k := 150) (i := t1) (n := 17) (wr := true) (by decide) rfl (by omega) (by decide) dX12_tagged_43 ?_
          refine lv_iload_n C.1 C.2.1 dX12_tagged_44 rfl (lv_at hl 0 rfl) ?_
          refine lv_iload_n C.1 C.2.1 dX12_tagged_45 rfl (lv_at hl 1 rfl) ?_
          refine m_icmp_gt (tgt := 60) (a := t1) (b := t) C (by omega) (by omega) dX12_tagged_46 (by decide) (fun h_33 => ?_) (fun h_33 => ?_)
          · refine lv_sipush (v := 320) C.1 C.2.1 dX12_tagged_60 (by decide) ?_
            refine lv_aload_n C.1 C.2.1 dX12_tagged_63 rfl (lv_at hl 2 rfl) ?_
            refine m_get C w (k := 117) (j := 36) (v := .ref (r (151))) flX12_183 (by decide) rfl rfl dX12_tagged_64 ?_
            refine lv_iload_n C.1 C.2.1 dX12_tagged_67 rfl (lv_at hl 1 rfl) ?_
            refine lv_bipush (v := 17) C.1 C.2.1 dX12_tagged_68 (by decide) ?_
            refine lv_iadd C.1 C.2.1 dX12_tagged_70 ?_
            refine m_i (y := nI (t + 17)) (nI_add t 17) ?_
            refine lv_iload_n C.1 C.2.1 dX12_tagged_71 rfl (lv_at hl 0 rfl) ?_
            refine lv_isub C.1 C.2.1 dX12_tagged_72 ?_
            refine m_i (y := nI ((t + 17) - t1)) (pk_sub (a := t + 17) (b := t1) (by omega)) ?_
            refine m_iald C w (k := 151) (i := (t + 17) - t1) (n := 17) (wr := true) (by decide) rfl (by omega) (by decide) dX12_tagged_73 ?_
            refine lv_imul C.1 C.2.1 dX12_tagged_74 ?_
            refine lv_imul C.1 C.2.1 dX12_tagged_75 ?_
            refine lv_iadd C.1 C.2.1 dX12_tagged_76 ?_
            refine m_iast C w (k := 153) (i := t) (n := 17) (x := ((M_31.1 153 t) + ((M_31.1 150 t1) * ((320 : Int32) * (M_31.1 151 ((t + 17) - t1)))))) (by decide) rfl (by omega) (by decide) dX12_tagged_77 (fun H locs w => ?_)
            obtain ⟨M_34, eM_34⟩ : ∃ zz, zz = mm_w M_31 153 t ((M_31.1 153 t) + ((M_31.1 150 t1) * ((320 : Int32) * (M_31.1 151 ((t + 17) - t1))))) := ⟨_, rfl⟩
            rw [← eM_34] at w
            refine lv_iinc (v := (nI (t1 + 1))) (lv' := [(2, .int (nI (t1 + 1))), (1, .int (nI (t))), (0, .ref (r (117)))]) C.1 C.2.1 dX12_tagged_78 hl (k := 0) rfl (nI_add t1 1) (by decide) rfl (fun ls hl => ?_)
            refine lv_goto (tgt := 25) C.1 C.2.1 dX12_tagged_81 (by decide) ?_
            have h9 : lv_has ls 3 [(2, .int (nI (t1 + 1))), (1, .int (nI (t))), (0, .ref (r (117)))] := lv_sub hl [0, 1, 2] rfl
            have hlZ : lv_has ls 3 [(2, .int (nI (t1 + 1))), (1, .int (nI (t))), (0, .ref (r (117)))] := h9
            have wZ := w
            subst eM_31 eM_34
            refine ih (t1 + 1) (by omega) _ _ _ (m_w (Eq.symm (congrArg (fun z => z) (show f_X12_tagged_L25 t M_28 (t1 + 1) = _ from ((if_pos h_33).trans rfl)))) wZ) ?_
            exact hlZ
          · refine lv_aload_n C.1 C.2.1 dX12_tagged_49 rfl (lv_at hl 2 rfl) ?_
            refine m_get C w (k := 117) (j := 36) (v := .ref (r (151))) flX12_183 (by decide) rfl rfl dX12_tagged_50 ?_
            refine lv_iload_n C.1 C.2.1 dX12_tagged_53 rfl (lv_at hl 1 rfl) ?_
            refine lv_iload_n C.1 C.2.1 dX12_tagged_54 rfl (lv_at hl 0 rfl) ?_
            refine lv_isub C.1 C.2.1 dX12_tagged_55 ?_
            refine m_i (y := nI (t - t1)) (pk_sub (a := t) (b := t1) (by omega)) ?_
            refine m_iald C w (k := 151) (i := t - t1) (n := 17) (wr := true) (by decide) rfl (by omega) (by decide) dX12_tagged_56 ?_
            refine lv_goto (tgt := 75) C.1 C.2.1 dX12_tagged_57 (by decide) ?_
            refine lv_imul C.1 C.2.1 dX12_tagged_75 ?_
            refine lv_iadd C.1 C.2.1 dX12_tagged_76 ?_
            refine m_iast C w (k := 153) (i := t) (n := 17) (x := ((M_31.1 153 t) + ((M_31.1 150 t1) * (M_31.1 151 (t - t1))))) (by decide) rfl (by omega) (by decide) dX12_tagged_77 (fun H locs w => ?_)
            obtain ⟨M_35, eM_35⟩ : ∃ zz, zz = mm_w M_31 153 t ((M_31.1 153 t) + ((M_31.1 150 t1) * (M_31.1 151 (t - t1)))) := ⟨_, rfl⟩
            rw [← eM_35] at w
            refine lv_iinc (v := (nI (t1 + 1))) (lv' := [(2, .int (nI (t1 + 1))), (1, .int (nI (t))), (0, .ref (r (117)))]) C.1 C.2.1 dX12_tagged_78 hl (k := 0) rfl (nI_add t1 1) (by decide) rfl (fun ls hl => ?_)
            refine lv_goto (tgt := 25) C.1 C.2.1 dX12_tagged_81 (by decide) ?_
            have h9 : lv_has ls 3 [(2, .int (nI (t1 + 1))), (1, .int (nI (t))), (0, .ref (r (117)))] := lv_sub hl [0, 1, 2] rfl
            have hlZ : lv_has ls 3 [(2, .int (nI (t1 + 1))), (1, .int (nI (t))), (0, .ref (r (117)))] := h9
            have wZ := w
            subst eM_31 eM_35
            refine ih (t1 + 1) (by omega) _ _ _ (m_w (Eq.symm (congrArg (fun z => z) (show f_X12_tagged_L25 t M_28 (t1 + 1) = _ from ((if_neg (Nat.not_lt.mpr h_33)).trans rfl)))) wZ) ?_
            exact hlZ
      exact loop1 17 0 (by omega) _ _ ls w hl
  exact loop 17 0 (by omega) _ _ ls w hl

def f_X12_tagRow_B1 (k1 : Nat) (p1 : Nat) (p2 : Nat) (t : Nat) (t1 : Nat) (M_9 : mm_M) : mm_M :=
  if p2 ≤ t * 16 + t1 then (let M_12 := mm_w M_9 152 t1 (0 : Int32)
  M_12) else (let M_13 := mm_w M_9 152 t1 ((M_9.1 k1 (p1 + (t * 16) + t1)) &&& (255 : Int32))
  M_13)
theorem w_f_X12_tagRow_B1 (k1 : Nat) (p1 : Nat) (p2 : Nat) (t : Nat) (t1 : Nat) (M_9 : mm_M) : mm_fr [152] M_9 (f_X12_tagRow_B1 k1 p1 p2 t t1 M_9) := by
  unfold f_X12_tagRow_B1
  exact (mm_fr_ite (fun _ => (mm_fr_w (by simp) (mm_fr_refl _ _))) (fun _ => (mm_fr_w (by simp) (mm_fr_refl _ _))))
def f_X12_tagRow_L12 (k1 : Nat) (p1 : Nat) (p2 : Nat) (t : Nat) (σ : mm_M) : Nat → mm_M
  | 0 => σ
  | t1 + 1 =>
  let M_9 := f_X12_tagRow_L12 k1 p1 p2 t σ t1
  f_X12_tagRow_B1 k1 p1 p2 t t1 M_9
theorem w_f_X12_tagRow_L12 (k1 : Nat) (p1 : Nat) (p2 : Nat) (t : Nat) (σ : mm_M) : ∀ t1 : Nat, mm_fr [152] σ (f_X12_tagRow_L12 k1 p1 p2 t σ t1)
  | 0 => mm_fr_refl _ _
  | t1 + 1 => have ih := w_f_X12_tagRow_L12 k1 p1 p2 t σ t1
    ((w_f_X12_tagRow_B1 _ _ _ _ _ _).on (by simp) ih)
def f_X12_tagRow_L3 (k1 : Nat) (p1 : Nat) (p2 : Nat) (σ : mm_M) : Nat → mm_M
  | 0 => σ
  | t + 1 =>
  let M_3 := f_X12_tagRow_L3 k1 p1 p2 σ t
  let M_5 := f_X12_tagRow_L12 k1 p1 p2 t M_3 16
  let M_7 := mm_w M_5 152 16 (1 : Int32)
  let M_8 := f_X12_tagged M_7
  M_8
theorem w_f_X12_tagRow_L3 (k1 : Nat) (p1 : Nat) (p2 : Nat) (σ : mm_M) : ∀ t : Nat, mm_fr [152, 150, 153] σ (f_X12_tagRow_L3 k1 p1 p2 σ t)
  | 0 => mm_fr_refl _ _
  | t + 1 => have ih := w_f_X12_tagRow_L3 k1 p1 p2 σ t
    ((w_f_X12_tagged _).on (by simp) (mm_fr_w (by simp) ((w_f_X12_tagRow_L12 _ _ _ _ _ 16).on (by simp) ih)))
def f_X12_tagRow (k1 : Nat) (p1 : Nat) (p2 : Nat) (M : mm_M) : mm_M :=
  let M_1 := f_X12_tagRow_L3 k1 p1 p2 M ((p2 + 15) / 16)
  M_1
theorem w_f_X12_tagRow (k1 : Nat) (p1 : Nat) (p2 : Nat) (M : mm_M) : mm_fr [152, 150, 153] M (f_X12_tagRow k1 p1 p2 M) := by
  unfold f_X12_tagRow
  exact ((w_f_X12_tagRow_L3 _ _ _ _ ((p2 + 15) / 16)).on (by simp) (mm_fr_refl _ _))
set_option maxHeartbeats 4000000 in
set_option maxRecDepth 100000 in
theorem c_X12_tagRow (l : Launch) (D : va_G) (b0 : Nat) (r : Nat → Nat) (M : mm_M) (k1 : Nat) (p1 : Nat) (p2 : Nat) {n1 : Nat} {w1 : Bool} (hk1 : k1 < 181) (hs1 : mm_sh k1 = .inl (.byte, n1, w1)) (hn1 : n1 < 2 ^ 31) (hp1 : p1 + p2 ≤ n1) (hq1 : n1 < 2 ^ 30) : mm_Mv l yX12_tagRow cX12_tagRow 6 2 45 D b0 r [.ref (r (117)), .ref (r (k1)), .int (nI (p1)), .int (nI (p2))] M (fun M' => M' = f_X12_tagRow k1 p1 p2 M) := by
  refine mm_enter (cc := cX12_tagRow) (nL := 6) (ret := none) (by decide) (Nat.le_of_ble_eq_true rfl) ?_
  intro p e s m args below meth c C w ls hl
  have hl : lv_has ls 6 [(0, .ref (r (117))), (1, .ref (r (k1))), (2, .int (nI (p1))), (3, .int (nI (p2)))] := hl
  refine lv_iconst (v := 0) C.1 C.2.1 dX12_tagRow_0 (by decide) ?_
  refine lv_istore (lv' := [(4, .int 0), (0, .ref (r (117))), (1, .ref (r (k1))), (2, .int (nI (p1))), (3, .int (nI (p2)))]) C.1 C.2.1 dX12_tagRow_1 hl (by decide) rfl (fun ls hl => ?_)
  have loop : ∀ (k t : Nat), t + k = (p2 + 15) / 16 → ∀ (H : Heap) (locs : List Loc) (ls : Array Slot), mm_W D b0 r (f_X12_tagRow_L3 k1 p1 p2 M t) s H locs → lv_has ls 6 [(4, .int (nI (t * 16))), (0, .ref (r (117))), (1, .ref (r (k1))), (2, .int (nI (p1))), (3, .int (nI (p2)))] → W p l e (mm_rm 2 45) s m args below meth c H locs 0 0 (MQ below (va_Qv (fun M' => M' = f_X12_tagRow k1 p1 p2 M) (mm_U D b0 r) (fun q => b0 ≤ q)) args s 0 0 (fun q => b0 ≤ q)) (F0 m 3 ls []) := by
    intro k
    induction k with
    | zero =>
      intro t ht H locs ls w hl
      obtain rfl : (p2 + 15) / 16 = t := by omega
      obtain ⟨M_1, eM_1⟩ : ∃ zz, zz = f_X12_tagRow_L3 k1 p1 p2 M ((p2 + 15) / 16) := ⟨_, rfl⟩
      rw [← eM_1] at w
      refine lv_iload C.1 C.2.1 dX12_tagRow_3 (lv_at hl 0 rfl) ?_
      refine lv_iload_n C.1 C.2.1 dX12_tagRow_5 rfl (lv_at hl 4 rfl) ?_
      refine m_icmp_ge (tgt := 76) (a := ((p2 + 15) / 16) * 16) (b := p2) C (by omega) (by omega) dX12_tagRow_6 (by decide) (fun _ => ?_) (fun h_2 => absurd h_2 (by omega))
      exact m_vret C w (by subst eM_1; exact Eq.symm (rfl)) dX12_tagRow_76
    | succ k ih =>
      intro t ht H locs ls w hl
      obtain ⟨M_3, eM_3⟩ : ∃ zz, zz = f_X12_tagRow_L3 k1 p1 p2 M t := ⟨_, rfl⟩
      rw [← eM_3] at w
      refine lv_iload C.1 C.2.1 dX12_tagRow_3 (lv_at hl 0 rfl) ?_
      refine lv_iload_n C.1 C.2.1 dX12_tagRow_5 rfl (lv_at hl 4 rfl) ?_
      refine m_icmp_ge (tgt := 76) (a := t * 16) (b := p2) C (by omega) (by omega) dX12_tagRow_6 (by decide) (fun h_4 => absurd h_4 (by omega)) (fun _ => ?_)
      refine lv_iconst (v := 0) C.1 C.2.1 dX12_tagRow_9 (by decide) ?_
      refine lv_istore (lv' := [(5, .int 0), (4, .int (nI (t * 16))), (0, .ref (r (117))), (1, .ref (r (k1))), (2, .int (nI (p1))), (3, .int (nI (p2)))]) C.1 C.2.1 dX12_tagRow_10 hl (by decide) rfl (fun ls hl => ?_)
      have loop1 : ∀ (k t1 : Nat), t1 + k = 16 → ∀ (H : Heap) (locs : List Loc) (ls : Array Slot), mm_W D b0 r (f_X12_tagRow_L12 k1 p1 p2 t M_3 t1) s H locs → lv_has ls 6 [(5, .int (nI (t1))), (4, .int (nI (t * 16))), (0, .ref (r (117))), (1, .ref (r (k1))), (2, .int (nI (p1))), (3, .int (nI (p2)))] → W p l e (mm_rm 2 45) s m args below meth c H locs 0 0 (MQ below (va_Qv (fun M' => M' = f_X12_tagRow k1 p1 p2 M) (mm_U D b0 r) (fun q => b0 ≤ q)) args s 0 0 (fun q => b0 ≤ q)) (F0 m 12 ls []) := by
        intro k
        induction k with
        | zero =>
          intro t1 ht1 H locs ls w hl
          obtain rfl : 16 = t1 := by omega
          obtain ⟨M_5, eM_5⟩ : ∃ zz, zz = f_X12_tagRow_L12 k1 p1 p2 t M_3 16 := ⟨_, rfl⟩
          rw [← eM_5] at w
          refine lv_iload C.1 C.2.1 dX12_tagRow_12 (lv_at hl 0 rfl) ?_
          refine lv_bipush (v := 16) C.1 C.2.1 dX12_tagRow_14 (by decide) ?_
          refine m_icmp_ge (tgt := 58) (a := 16) (b := 16) C (by omega) (by omega) dX12_tagRow_16 (by decide) (fun _ => ?_) (fun h_6 => absurd h_6 (by omega))
          refine lv_aload_n C.1 C.2.1 dX12_tagRow_58 rfl (lv_at hl 2 rfl) ?_
          refine m_get C w (k := 117) (j := 37) (v := .ref (r (152))) flX12_186 (by decide) rfl rfl dX12_tagRow_59 ?_
          refine lv_bipush (v := 16) C.1 C.2.1 dX12_tagRow_62 (by decide) ?_
          refine lv_iconst (v := 1) C.1 C.2.1 dX12_tagRow_64 (by decide) ?_
          refine m_iast C w (k := 152) (i := 16) (n := 17) (x := (1 : Int32)) (by decide) rfl (by omega) (by decide) dX12_tagRow_65 (fun H locs w => ?_)
          obtain ⟨M_7, eM_7⟩ : ∃ zz, zz = mm_w M_5 152 16 (1 : Int32) := ⟨_, rfl⟩
          rw [← eM_7] at w
          refine lv_aload_n C.1 C.2.1 dX12_tagRow_66 rfl (lv_at hl 2 rfl) ?_
          refine m_cvv C w hl cvX12_346 (k := 117) (by decide) rfl (q := (RX12, TX12, 58)) rfl rfl (As := []) (rest := []) (c_X12_tagged l D b0 r M_7  ) rfl rfl (Nat.le_of_ble_eq_true rfl) ⟨Nat.le_of_ble_eq_true rfl, Nat.le_of_ble_eq_true rfl⟩ ⟨Nat.zero_le _, Nat.zero_le _⟩ dX12_tagRow_67 (fun M_8 H locs eM_8 w => ?_)
          refine lv_iinc (v := (nI (t * 16 + 16))) (lv' := [(4, .int (nI (t * 16 + 16))), (5, .int (nI (16))), (0, .ref (r (117))), (1, .ref (r (k1))), (2, .int (nI (p1))), (3, .int (nI (p2)))]) C.1 C.2.1 dX12_tagRow_70 hl (k := 1) rfl (nI_add (t * 16) 16) (by decide) rfl (fun ls hl => ?_)
          refine lv_goto (tgt := 3) C.1 C.2.1 dX12_tagRow_73 (by decide) ?_
          have h9 : lv_has ls 6 [(4, .int (nI (t * 16 + 16))), (0, .ref (r (117))), (1, .ref (r (k1))), (2, .int (nI (p1))), (3, .int (nI (p2)))] := lv_sub hl [0, 2, 3, 4, 5] rfl
          rw [show ((nI (t * 16 + 16)) : Int32) = (nI ((t + 1) * 16)) from (by first | rfl | (congr 1; omega))] at h9
          have hlZ : lv_has ls 6 [(4, .int (nI ((t + 1) * 16))), (0, .ref (r (117))), (1, .ref (r (k1))), (2, .int (nI (p1))), (3, .int (nI (p2)))] := h9
          have wZ := w
          subst eM_3 eM_5 eM_7 eM_8
          refine ih (t + 1) (by omega) _ _ _ (wZ) ?_
          exact hlZ
        | succ k ih =>
          intro t1 ht1 H locs ls w hl
          obtain ⟨M_9, eM_9⟩ : ∃ zz, zz = f_X12_tagRow_L12 k1 p1 p2 t M_3 t1 := ⟨_, rfl⟩
          rw [← eM_9] at w
          refine lv_iload C.1 C.2.1 dX12_tagRow_12 (lv_at hl 0 rfl) ?_
          refine lv_bipush (v := 16) C.1 C.2.1 dX12_tagRow_14 (by decide) ?_
          refine m_icmp_ge (tgt := 58) (a := t1) (b := 16) C (by omega) (by omega) dX12_tagRow_16 (by decide) (fun h_10 => absurd h_10 (by omega)) (fun _ => ?_)
          refine lv_aload_n C.1 C.2.1 dX12_tagRow_19 rfl (lv_at hl 2 rfl) ?_
          refine m_get C w (k := 117) (j := 37) (v := .ref (r (152))) flX12_186 (by decide) rfl rfl dX12_tagRow_20 ?_
          refine lv_iload C.1 C.2.1 dX12_tagRow_23 (lv_at hl 0 rfl) ?_
          refine lv_iload C.1 C.2.1 dX12_tagRow_25 (lv_at hl 1 rfl) ?_
          refine lv_iload C.1 C.2.1 dX12_tagRow_27 (lv_at hl 0 rfl) ?_
          refine lv_iadd C.1 C.2.1 dX12_tagRow_29 ?_
          refine m_i (y := nI (t * 16 + t1)) (nI_add (t * 16) t1) ?_
          refine lv_iload_n C.1 C.2.1 dX12_tagRow_30 rfl (lv_at hl 5 rfl) ?_
          refine m_icmp_ge (tgt := 50) (a := t * 16 + t1) (b := p2) C (by omega) (by omega) dX12_tagRow_31 (by decide) (fun h_11 => ?_) (fun h_11 => ?_)
          · refine lv_iconst (v := 0) C.1 C.2.1 dX12_tagRow_50 (by decide) ?_
            refine m_iast C w (k := 152) (i := t1) (n := 17) (x := (0 : Int32)) (by decide) rfl (by omega) (by decide) dX12_tagRow_51 (fun H locs w => ?_)
            obtain ⟨M_12, eM_12⟩ : ∃ zz, zz = mm_w M_9 152 t1 (0 : Int32) := ⟨_, rfl⟩
            rw [← eM_12] at w
            refine lv_iinc (v := (nI (t1 + 1))) (lv' := [(5, .int (nI (t1 + 1))), (4, .int (nI (t * 16))), (0, .ref (r (117))), (1, .ref (r (k1))), (2, .int (nI (p1))), (3, .int (nI (p2)))]) C.1 C.2.1 dX12_tagRow_52 hl (k := 0) rfl (nI_add t1 1) (by decide) rfl (fun ls hl => ?_)
            refine lv_goto (tgt := 12) C.1 C.2.1 dX12_tagRow_55 (by decide) ?_
            have h9 : lv_has ls 6 [(5, .int (nI (t1 + 1))), (4, .int (nI (t * 16))), (0, .ref (r (117))), (1, .ref (r (k1))), (2, .int (nI (p1))), (3, .int (nI (p2)))] := lv_sub hl [0, 1, 2, 3, 4, 5] rfl
            have hlZ : lv_has ls 6 [(5, .int (nI (t1 + 1))), (4, .int (nI (t * 16))), (0, .ref (r (117))), (1, .ref (r (k1))), (2, .int (nI (p1))), (3, .int (nI (p2)))] := h9
            have wZ := w
            subst eM_9 eM_12
            refine ih (t1 + 1) (by omega) _ _ _ (m_w (Eq.symm (congrArg (fun z => z) (show f_X12_tagRow_L12 k1 p1 p2 t M_3 (t1 + 1) = _ from ((if_pos h_11).trans rfl)))) wZ) ?_
            exact hlZ
          · refine lv_aload_n C.1 C.2.1 dX12_tagRow_34 rfl (lv_at hl 3 rfl) ?_
            refine lv_iload_n C.1 C.2.1 dX12_tagRow_35 rfl (lv_at hl 4 rfl) ?_
            refine lv_iload C.1 C.2.1 dX12_tagRow_36 (lv_at hl 1 rfl) ?_
            refine lv_iadd C.1 C.2.1 dX12_tagRow_38 ?_
            refine m_i (y := nI (p1 + (t * 16))) (nI_add p1 (t * 16)) ?_
            refine lv_iload C.1 C.2.1 dX12_tagRow_39 (lv_at hl 0 rfl) ?_
            refine lv_iadd C.1 C.2.1 dX12_tagRow_41 ?_
            refine m_i (y := nI (p1 + (t * 16) + t1)) (nI_add (p1 + (t * 16)) t1) ?_
            refine m_bald C w (k := k1) (i := p1 + (t * 16) + t1) (n := n1) (wr := w1) hk1 hs1 (by omega) hn1 dX12_tagRow_42 ?_
            refine lv_sipush (v := 255) C.1 C.2.1 dX12_tagRow_43 (by decide) ?_
            refine lv_iand C.1 C.2.1 dX12_tagRow_46 ?_
            refine lv_goto (tgt := 51) C.1 C.2.1 dX12_tagRow_47 (by decide) ?_
            refine m_iast C w (k := 152) (i := t1) (n := 17) (x := ((M_9.1 k1 (p1 + (t * 16) + t1)) &&& (255 : Int32))) (by decide) rfl (by omega) (by decide) dX12_tagRow_51 (fun H locs w => ?_)
            obtain ⟨M_13, eM_13⟩ : ∃ zz, zz = mm_w M_9 152 t1 ((M_9.1 k1 (p1 + (t * 16) + t1)) &&& (255 : Int32)) := ⟨_, rfl⟩
            rw [← eM_13] at w
            refine lv_iinc (v := (nI (t1 + 1))) (lv' := [(5, .int (nI (t1 + 1))), (4, .int (nI (t * 16))), (0, .ref (r (117))), (1, .ref (r (k1))), (2, .int (nI (p1))), (3, .int (nI (p2)))]) C.1 C.2.1 dX12_tagRow_52 hl (k := 0) rfl (nI_add t1 1) (by decide) rfl (fun ls hl => ?_)
            refine lv_goto (tgt := 12) C.1 C.2.1 dX12_tagRow_55 (by decide) ?_
            have h9 : lv_has ls 6 [(5, .int (nI (t1 + 1))), (4, .int (nI (t * 16))), (0, .ref (r (117))), (1, .ref (r (k1))), (2, .int (nI (p1))), (3, .int (nI (p2)))] := lv_sub hl [0, 1, 2, 3, 4, 5] rfl
            have hlZ : lv_has ls 6 [(5, .int (nI (t1 + 1))), (4, .int (nI (t * 16))), (0, .ref (r (117))), (1, .ref (r (k1))), (2, .int (nI (p1))), (3, .int (nI (p2)))] := h9
            have wZ := w
            subst eM_9 eM_13
            refine ih (t1 + 1) (by omega) _ _ _ (m_w (Eq.symm (congrArg (fun z => z) (show f_X12_tagRow_L12 k1 p1 p2 t M_3 (t1 + 1) = _ from ((if_neg (Nat.not_le.mpr h_11)).trans rfl)))) wZ) ?_
            exact hlZ
      exact loop1 16 0 (by omega) _ _ ls w hl
  exact loop ((p2 + 15) / 16) 0 (by omega) _ _ ls w (by have h9 := hl; first | exact h9 | simpa using h9)

def f_X12_tagEnds_L235  (σ : mm_M) : Nat → mm_M
  | 0 => σ
  | t + 1 =>
  let M_16 := f_X12_tagEnds_L235 σ t
  let M_18 := mm_w M_16 156 t (mm_b (M_16.1 150 t))
  M_18
theorem w_f_X12_tagEnds_L235  (σ : mm_M) : ∀ t : Nat, mm_fr [156] σ (f_X12_tagEnds_L235 σ t)
  | 0 => mm_fr_refl _ _
  | t + 1 => have ih := w_f_X12_tagEnds_L235 σ t
    (mm_fr_w (by simp) ih)
def f_X12_tagEnds_B1 (t : Nat) (M_19 : mm_M) : mm_M :=
  if 16 ≤ t then (let M_22 := mm_w M_19 152 t (0 : Int32)
  M_22) else (let M_23 := mm_w M_19 152 t ((M_19.1 155 (16 + t)) &&& (255 : Int32))
  M_23)
theorem w_f_X12_tagEnds_B1 (t : Nat) (M_19 : mm_M) : mm_fr [152] M_19 (f_X12_tagEnds_B1 t M_19) := by
  unfold f_X12_tagEnds_B1
  exact (mm_fr_ite (fun _ => (mm_fr_w (by simp) (mm_fr_refl _ _))) (fun _ => (mm_fr_w (by simp) (mm_fr_refl _ _))))
def f_X12_tagEnds_L184  (σ : mm_M) : Nat → mm_M
  | 0 => σ
  | t + 1 =>
  let M_19 := f_X12_tagEnds_L184 σ t
  f_X12_tagEnds_B1 t M_19
theorem w_f_X12_tagEnds_L184  (σ : mm_M) : ∀ t : Nat, mm_fr [152] σ (f_X12_tagEnds_L184 σ t)
  | 0 => mm_fr_refl _ _
  | t + 1 => have ih := w_f_X12_tagEnds_L184 σ t
    ((w_f_X12_tagEnds_B1 _ _).on (by simp) ih)
def f_X12_tagEnds_L158  (σ : mm_M) : Nat → mm_M
  | 0 => σ
  | t + 1 =>
  let M_39 := f_X12_tagEnds_L158 σ t
  let M_41 := mm_w M_39 150 t (M_39.1 154 t)
  M_41
theorem w_f_X12_tagEnds_L158  (σ : mm_M) : ∀ t : Nat, mm_fr [150] σ (f_X12_tagEnds_L158 σ t)
  | 0 => mm_fr_refl _ _
  | t + 1 => have ih := w_f_X12_tagEnds_L158 σ t
    (mm_fr_w (by simp) ih)
def f_X12_tagEnds_B2 (M_9 : mm_M) : mm_M :=
  if ¬ ((M_9.1 150 16) >>> ((7 : Int32) &&& 31)) = (1 : Int32) then (let M_11 := f_X12_tagEnds_L184 M_9 17
  let M_13 := f_X12_plus 152 M_11
  let M_14 := f_X12_tagEnds_L235 M_13 16
  M_14) else (let M_24 := f_X12_tagEnds_L158 M_9 17
  let M_26 := f_X12_tagEnds_L184 M_24 17
  let M_28 := f_X12_plus 152 M_26
  let M_29 := f_X12_tagEnds_L235 M_28 16
  M_29)
theorem w_f_X12_tagEnds_B2 (M_9 : mm_M) : mm_fr [150, 156, 152] M_9 (f_X12_tagEnds_B2 M_9) := by
  unfold f_X12_tagEnds_B2
  exact (mm_fr_ite (fun _ => ((w_f_X12_tagEnds_L235 _ 16).on (by simp) ((w_f_X12_plus _ _).on (by simp) ((w_f_X12_tagEnds_L184 _ 17).on (by simp) (mm_fr_refl _ _))))) (fun _ => ((w_f_X12_tagEnds_L235 _ 16).on (by simp) ((w_f_X12_plus _ _).on (by simp) ((w_f_X12_tagEnds_L184 _ 17).on (by simp) ((w_f_X12_tagEnds_L158 _ 17).on (by simp) (mm_fr_refl _ _)))))))
def f_X12_tagEnds_B3 (t : Nat) (M_44 : mm_M) : mm_M :=
  if ¬ t = 16 then (let M_47 := mm_w M_44 152 t (0 : Int32)
  M_47) else (let M_48 := mm_w M_44 152 t (252 : Int32)
  M_48)
theorem w_f_X12_tagEnds_B3 (t : Nat) (M_44 : mm_M) : mm_fr [152] M_44 (f_X12_tagEnds_B3 t M_44) := by
  unfold f_X12_tagEnds_B3
  exact (mm_fr_ite (fun _ => (mm_fr_w (by simp) (mm_fr_refl _ _))) (fun _ => (mm_fr_w (by simp) (mm_fr_refl _ _))))
def f_X12_tagEnds_B4 (t : Nat) (M_44 : mm_M) : mm_M :=
  if ¬ t = 0 then (f_X12_tagEnds_B3 t M_44) else (let M_49 := mm_w M_44 152 t (5 : Int32)
  M_49)
theorem w_f_X12_tagEnds_B4 (t : Nat) (M_44 : mm_M) : mm_fr [152] M_44 (f_X12_tagEnds_B4 t M_44) := by
  unfold f_X12_tagEnds_B4
  exact (mm_fr_ite (fun _ => ((w_f_X12_tagEnds_B3 _ _).on (by simp) (mm_fr_refl _ _))) (fun _ => (mm_fr_w (by simp) (mm_fr_refl _ _))))
def f_X12_tagEnds_L83  (σ : mm_M) : Nat → mm_M
  | 0 => σ
  | t + 1 =>
  let M_42 := f_X12_tagEnds_L83 σ t
  let M_44 := mm_w M_42 154 t (M_42.1 150 t)
  f_X12_tagEnds_B4 t M_44
theorem w_f_X12_tagEnds_L83  (σ : mm_M) : ∀ t : Nat, mm_fr [154, 152] σ (f_X12_tagEnds_L83 σ t)
  | 0 => mm_fr_refl _ _
  | t + 1 => have ih := w_f_X12_tagEnds_L83 σ t
    ((w_f_X12_tagEnds_B4 _ _).on (by simp) (mm_fr_w (by simp) ih))
def f_X12_tagEnds_L23 (v1 : Int32) (v2 : Int32) (σ : mm_M) : Nat → mm_M
  | 0 => σ
  | t + 1 =>
  let M_50 := f_X12_tagEnds_L23 v1 v2 σ t
  let M_52 := mm_w M_50 152 t (((v1) >>> ((nI (8 * t)) &&& 31)) &&& (255 : Int32))
  let M_53 := mm_w M_52 152 (8 + t) (((v2) >>> ((nI (8 * t)) &&& 31)) &&& (255 : Int32))
  M_53
theorem w_f_X12_tagEnds_L23 (v1 : Int32) (v2 : Int32) (σ : mm_M) : ∀ t : Nat, mm_fr [152] σ (f_X12_tagEnds_L23 v1 v2 σ t)
  | 0 => mm_fr_refl _ _
  | t + 1 => have ih := w_f_X12_tagEnds_L23 v1 v2 σ t
    (mm_fr_w (by simp) (mm_fr_w (by simp) ih))
def f_X12_tagEnds_L2  (σ : mm_M) : Nat → mm_M
  | 0 => σ
  | t + 1 =>
  let M_54 := f_X12_tagEnds_L2 σ t
  let M_56 := mm_w M_54 152 t (0 : Int32)
  M_56
theorem w_f_X12_tagEnds_L2  (σ : mm_M) : ∀ t : Nat, mm_fr [152] σ (f_X12_tagEnds_L2 σ t)
  | 0 => mm_fr_refl _ _
  | t + 1 => have ih := w_f_X12_tagEnds_L2 σ t
    (mm_fr_w (by simp) ih)
def f_X12_tagEnds (v1 : Int32) (v2 : Int32) (M : mm_M) : mm_M :=
  let M_1 := f_X12_tagEnds_L2 M 16
  let M_3 := f_X12_tagEnds_L23 v1 v2 M_1 4
  let M_5 := mm_w M_3 152 16 (1 : Int32)
  let M_6 := f_X12_tagged M_5
  let M_7 := f_X12_tagEnds_L83 M_6 17
  let M_9 := f_X12_plus 152 M_7
  f_X12_tagEnds_B2 M_9
theorem w_f_X12_tagEnds (v1 : Int32) (v2 : Int32) (M : mm_M) : mm_fr [152, 150, 153, 156, 154] M (f_X12_tagEnds v1 v2 M) := by
  unfold f_X12_tagEnds
  exact ((w_f_X12_tagEnds_B2 _).on (by simp) ((w_f_X12_plus _ _).on (by simp) ((w_f_X12_tagEnds_L83 _ 17).on (by simp) ((w_f_X12_tagged _).on (by simp) (mm_fr_w (by simp) ((w_f_X12_tagEnds_L23 _ _ _ 4).on (by simp) ((w_f_X12_tagEnds_L2 _ 16).on (by simp) (mm_fr_refl _ _))))))))
set_option maxHeartbeats 4000000 in
set_option maxRecDepth 100000 in
theorem c_X12_tagEnds (l : Launch) (D : va_G) (b0 : Nat) (r : Nat → Nat) (M : mm_M) (v1 : Int32) (v2 : Int32)  : mm_Mv l yX12_tagEnds cX12_tagEnds 4 2 45 D b0 r [.ref (r (117)), .int (v1), .int (v2)] M (fun M' => M' = f_X12_tagEnds v1 v2 M) := by
  refine mm_enter (cc := cX12_tagEnds) (nL := 4) (ret := none) (by decide) (Nat.le_of_ble_eq_true rfl) ?_
  intro p e s m args below meth c C w ls hl
  have hl : lv_has ls 4 [(0, .ref (r (117))), (1, .int (v1)), (2, .int (v2))] := hl
  refine lv_iconst (v := 0) C.1 C.2.1 dX12_tagEnds_0 (by decide) ?_
  refine lv_istore_n (lv' := [(3, .int 0), (0, .ref (r (117))), (1, .int (v1)), (2, .int (v2))]) C.1 C.2.1 dX12_tagEnds_1 rfl hl (by decide) rfl (fun ls hl => ?_)
  have loop : ∀ (k t : Nat), t + k = 16 → ∀ (H : Heap) (locs : List Loc) (ls : Array Slot), mm_W D b0 r (f_X12_tagEnds_L2 M t) s H locs → lv_has ls 4 [(3, .int (nI (t))), (0, .ref (r (117))), (1, .int (v1)), (2, .int (v2))] → W p l e (mm_rm 2 45) s m args below meth c H locs 0 0 (MQ below (va_Qv (fun M' => M' = f_X12_tagEnds v1 v2 M) (mm_U D b0 r) (fun q => b0 ≤ q)) args s 0 0 (fun q => b0 ≤ q)) (F0 m 2 ls []) := by
    intro k
    induction k with
    | zero =>
      intro t ht H locs ls w hl
      obtain rfl : 16 = t := by omega
      obtain ⟨M_1, eM_1⟩ : ∃ zz, zz = f_X12_tagEnds_L2 M 16 := ⟨_, rfl⟩
      rw [← eM_1] at w
      refine lv_iload_n C.1 C.2.1 dX12_tagEnds_2 rfl (lv_at hl 0 rfl) ?_
      refine lv_bipush (v := 16) C.1 C.2.1 dX12_tagEnds_3 (by decide) ?_
      refine m_icmp_ge (tgt := 21) (a := 16) (b := 16) C (by omega) (by omega) dX12_tagEnds_5 (by decide) (fun _ => ?_) (fun h_2 => absurd h_2 (by omega))
      refine lv_iconst (v := 0) C.1 C.2.1 dX12_tagEnds_21 (by decide) ?_
      refine lv_istore_n (lv' := [(3, .int 0), (0, .ref (r (117))), (1, .int (v1)), (2, .int (v2))]) C.1 C.2.1 dX12_tagEnds_22 rfl hl (by decide) rfl (fun ls hl => ?_)
      have loop : ∀ (k t : Nat), t + k = 4 → ∀ (H : Heap) (locs : List Loc) (ls : Array Slot), mm_W D b0 r (f_X12_tagEnds_L23 v1 v2 M_1 t) s H locs → lv_has ls 4 [(3, .int (nI (t))), (0, .ref (r (117))), (1, .int (v1)), (2, .int (v2))] → W p l e (mm_rm 2 45) s m args below meth c H locs 0 0 (MQ below (va_Qv (fun M' => M' = f_X12_tagEnds v1 v2 M) (mm_U D b0 r) (fun q => b0 ≤ q)) args s 0 0 (fun q => b0 ≤ q)) (F0 m 23 ls []) := by
        intro k
        induction k with
        | zero =>
          intro t ht H locs ls w hl
          obtain rfl : 4 = t := by omega
          obtain ⟨M_3, eM_3⟩ : ∃ zz, zz = f_X12_tagEnds_L23 v1 v2 M_1 4 := ⟨_, rfl⟩
          rw [← eM_3] at w
          refine lv_iload_n C.1 C.2.1 dX12_tagEnds_23 rfl (lv_at hl 0 rfl) ?_
          refine lv_iconst (v := 4) C.1 C.2.1 dX12_tagEnds_24 (by decide) ?_
          refine m_icmp_ge (tgt := 69) (a := 4) (b := 4) C (by omega) (by omega) dX12_tagEnds_25 (by decide) (fun _ => ?_) (fun h_4 => absurd h_4 (by omega))
          refine lv_aload_n C.1 C.2.1 dX12_tagEnds_69 rfl (lv_at hl 1 rfl) ?_
          refine m_get C w (k := 117) (j := 37) (v := .ref (r (152))) flX12_186 (by decide) rfl rfl dX12_tagEnds_70 ?_
          refine lv_bipush (v := 16) C.1 C.2.1 dX12_tagEnds_73 (by decide) ?_
          refine lv_iconst (v := 1) C.1 C.2.1 dX12_tagEnds_75 (by decide) ?_
          refine m_iast C w (k := 152) (i := 16) (n := 17) (x := (1 : Int32)) (by decide) rfl (by omega) (by decide) dX12_tagEnds_76 (fun H locs w => ?_)
          obtain ⟨M_5, eM_5⟩ : ∃ zz, zz = mm_w M_3 152 16 (1 : Int32) := ⟨_, rfl⟩
          rw [← eM_5] at w
          refine lv_aload_n C.1 C.2.1 dX12_tagEnds_77 rfl (lv_at hl 1 rfl) ?_
          refine m_cvv C w hl cvX12_346 (k := 117) (by decide) rfl (q := (RX12, TX12, 58)) rfl rfl (As := []) (rest := []) (c_X12_tagged l D b0 r M_5  ) rfl rfl (Nat.le_of_ble_eq_true rfl) ⟨Nat.le_of_ble_eq_true rfl, Nat.le_of_ble_eq_true rfl⟩ ⟨Nat.zero_le _, Nat.zero_le _⟩ dX12_tagEnds_78 (fun M_6 H locs eM_6 w => ?_)
          refine lv_iconst (v := 0) C.1 C.2.1 dX12_tagEnds_81 (by decide) ?_
          refine lv_istore_n (lv' := [(3, .int 0), (0, .ref (r (117))), (1, .int (v1)), (2, .int (v2))]) C.1 C.2.1 dX12_tagEnds_82 rfl hl (by decide) rfl (fun ls hl => ?_)
          have loop : ∀ (k t : Nat), t + k = 17 → ∀ (H : Heap) (locs : List Loc) (ls : Array Slot), mm_W D b0 r (f_X12_tagEnds_L83 M_6 t) s H locs → lv_has ls 4 [(3, .int (nI (t))), (0, .ref (r (117))), (1, .int (v1)), (2, .int (v2))] → W p l e (mm_rm 2 45) s m args below meth c H locs 0 0 (MQ below (va_Qv (fun M' => M' = f_X12_tagEnds v1 v2 M) (mm_U D b0 r) (fun q => b0 ≤ q)) args s 0 0 (fun q => b0 ≤ q)) (F0 m 83 ls []) := by
            intro k
            induction k with
            | zero =>
              intro t ht H locs ls w hl
              obtain rfl : 17 = t := by omega
              obtain ⟨M_7, eM_7⟩ : ∃ zz, zz = f_X12_tagEnds_L83 M_6 17 := ⟨_, rfl⟩
              rw [← eM_7] at w
              refine lv_iload_n C.1 C.2.1 dX12_tagEnds_83 rfl (lv_at hl 0 rfl) ?_
              refine lv_bipush (v := 17) C.1 C.2.1 dX12_tagEnds_84 (by decide) ?_
              refine m_icmp_ge (tgt := 134) (a := 17) (b := 17) C (by omega) (by omega) dX12_tagEnds_86 (by decide) (fun _ => ?_) (fun h_8 => absurd h_8 (by omega))
              refine lv_aload_n C.1 C.2.1 dX12_tagEnds_134 rfl (lv_at hl 1 rfl) ?_
              refine lv_aload_n C.1 C.2.1 dX12_tagEnds_135 rfl (lv_at hl 1 rfl) ?_
              refine m_get C w (k := 117) (j := 37) (v := .ref (r (152))) flX12_186 (by decide) rfl rfl dX12_tagEnds_136 ?_
              refine m_cvv C w hl cvX12_342 (k := 117) (by decide) rfl (q := (RX12, TX12, 58)) rfl rfl (As := [.ref (r (152))]) (rest := []) (c_X12_plus l D b0 r M_7 152 (by decide) rfl (by decide) (by omega)) rfl rfl (Nat.le_of_ble_eq_true rfl) ⟨Nat.le_of_ble_eq_true rfl, Nat.le_of_ble_eq_true rfl⟩ ⟨Nat.zero_le _, Nat.zero_le _⟩ dX12_tagEnds_139 (fun M_9 H locs eM_9 w => ?_)
              refine lv_aload_n C.1 C.2.1 dX12_tagEnds_142 rfl (lv_at hl 1 rfl) ?_
              refine m_get C w (k := 117) (j := 35) (v := .ref (r (150))) flX12_180 (by decide) rfl rfl dX12_tagEnds_143 ?_
              refine lv_bipush (v := 16) C.1 C.2.1 dX12_tagEnds_146 (by decide) ?_
              refine m_iald C w (k := 150) (i := 16) (n := 17) (wr := true) (by decide) rfl (by omega) (by decide) dX12_tagEnds_148 ?_
              refine lv_bipush (v := 7) C.1 C.2.1 dX12_tagEnds_149 (by decide) ?_
              refine lv_ishr C.1 C.2.1 dX12_tagEnds_151 ?_
              refine lv_iconst (v := 1) C.1 C.2.1 dX12_tagEnds_152 (by decide) ?_
              refine lv_icmp_ne (tgt := 182) C.1 C.2.1 dX12_tagEnds_153 (by decide) (fun h_10 => ?_) (fun h_10 => ?_)
              · refine lv_iconst (v := 0) C.1 C.2.1 dX12_tagEnds_182 (by decide) ?_
                refine lv_istore_n (lv' := [(3, .int 0), (0, .ref (r (117))), (1, .int (v1)), (2, .int (v2))]) C.1 C.2.1 dX12_tagEnds_183 rfl hl (by decide) rfl (fun ls hl => ?_)
                have loop : ∀ (k t : Nat), t + k = 17 → ∀ (H : Heap) (locs : List Loc) (ls : Array Slot), mm_W D b0 r (f_X12_tagEnds_L184 M_9 t) s H locs → lv_has ls 4 [(3, .int (nI (t))), (0, .ref (r (117))), (1, .int (v1)), (2, .int (v2))] → W p l e (mm_rm 2 45) s m args below meth c H locs 0 0 (MQ below (va_Qv (fun M' => M' = f_X12_tagEnds v1 v2 M) (mm_U D b0 r) (fun q => b0 ≤ q)) args s 0 0 (fun q => b0 ≤ q)) (F0 m 184 ls []) := by
                  intro k
                  induction k with
                  | zero =>
                    intro t ht H locs ls w hl
                    obtain rfl : 17 = t := by omega
                    obtain ⟨M_11, eM_11⟩ : ∃ zz, zz = f_X12_tagEnds_L184 M_9 17 := ⟨_, rfl⟩
                    rw [← eM_11] at w
                    refine lv_iload_n C.1 C.2.1 dX12_tagEnds_184 rfl (lv_at hl 0 rfl) ?_
                    refine lv_bipush (v := 17) C.1 C.2.1 dX12_tagEnds_185 (by decide) ?_
                    refine m_icmp_ge (tgt := 225) (a := 17) (b := 17) C (by omega) (by omega) dX12_tagEnds_187 (by decide) (fun _ => ?_) (fun h_12 => absurd h_12 (by omega))
                    refine lv_aload_n C.1 C.2.1 dX12_tagEnds_225 rfl (lv_at hl 1 rfl) ?_
                    refine lv_aload_n C.1 C.2.1 dX12_tagEnds_226 rfl (lv_at hl 1 rfl) ?_
                    refine m_get C w (k := 117) (j := 37) (v := .ref (r (152))) flX12_186 (by decide) rfl rfl dX12_tagEnds_227 ?_
                    refine m_cvv C w hl cvX12_342 (k := 117) (by decide) rfl (q := (RX12, TX12, 58)) rfl rfl (As := [.ref (r (152))]) (rest := []) (c_X12_plus l D b0 r M_11 152 (by decide) rfl (by decide) (by omega)) rfl rfl (Nat.le_of_ble_eq_true rfl) ⟨Nat.le_of_ble_eq_true rfl, Nat.le_of_ble_eq_true rfl⟩ ⟨Nat.zero_le _, Nat.zero_le _⟩ dX12_tagEnds_230 (fun M_13 H locs eM_13 w => ?_)
                    refine lv_iconst (v := 0) C.1 C.2.1 dX12_tagEnds_233 (by decide) ?_
                    refine lv_istore_n (lv' := [(3, .int 0), (0, .ref (r (117))), (1, .int (v1)), (2, .int (v2))]) C.1 C.2.1 dX12_tagEnds_234 rfl hl (by decide) rfl (fun ls hl => ?_)
                    have loop : ∀ (k t : Nat), t + k = 16 → ∀ (H : Heap) (locs : List Loc) (ls : Array Slot), mm_W D b0 r (f_X12_tagEnds_L235 M_13 t) s H locs → lv_has ls 4 [(3, .int (nI (t))), (0, .ref (r (117))), (1, .int (v1)), (2, .int (v2))] → W p l e (mm_rm 2 45) s m args below meth c H locs 0 0 (MQ below (va_Qv (fun M' => M' = f_X12_tagEnds v1 v2 M) (mm_U D b0 r) (fun q => b0 ≤ q)) args s 0 0 (fun q => b0 ≤ q)) (F0 m 235 ls []) := by
                      intro k
                      induction k with
                      | zero =>
                        intro t ht H locs ls w hl
                        obtain rfl : 16 = t := by omega
                        obtain ⟨M_14, eM_14⟩ : ∃ zz, zz = f_X12_tagEnds_L235 M_13 16 := ⟨_, rfl⟩
                        rw [← eM_14] at w
                        refine lv_iload_n C.1 C.2.1 dX12_tagEnds_235 rfl (lv_at hl 0 rfl) ?_
                        refine lv_bipush (v := 16) C.1 C.2.1 dX12_tagEnds_236 (by decide) ?_
                        refine m_icmp_ge (tgt := 260) (a := 16) (b := 16) C (by omega) (by omega) dX12_tagEnds_238 (by decide) (fun _ => ?_) (fun h_15 => absurd h_15 (by omega))
                        exact m_vret C w (by subst eM_1 eM_3 eM_5 eM_6 eM_7 eM_9 eM_11 eM_13 eM_14; exact Eq.symm (((if_pos h_10).trans rfl))) dX12_tagEnds_260
                      | succ k ih =>
                        intro t ht H locs ls w hl
                        obtain ⟨M_16, eM_16⟩ : ∃ zz, zz = f_X12_tagEnds_L235 M_13 t := ⟨_, rfl⟩
                        rw [← eM_16] at w
                        refine lv_iload_n C.1 C.2.1 dX12_tagEnds_235 rfl (lv_at hl 0 rfl) ?_
                        refine lv_bipush (v := 16) C.1 C.2.1 dX12_tagEnds_236 (by decide) ?_
                        refine m_icmp_ge (tgt := 260) (a := t) (b := 16) C (by omega) (by omega) dX12_tagEnds_238 (by decide) (fun h_17 => absurd h_17 (by omega)) (fun _ => ?_)
                        refine lv_aload_n C.1 C.2.1 dX12_tagEnds_241 rfl (lv_at hl 1 rfl) ?_
                        refine m_get C w (k := 117) (j := 41) (v := .ref (r (156))) flX12_198 (by decide) rfl rfl dX12_tagEnds_242 ?_
                        refine lv_iload_n C.1 C.2.1 dX12_tagEnds_245 rfl (lv_at hl 0 rfl) ?_
                        refine lv_aload_n C.1 C.2.1 dX12_tagEnds_246 rfl (lv_at hl 1 rfl) ?_
                        refine m_get C w (k := 117) (j := 35) (v := .ref (r (150))) flX12_180 (by decide) rfl rfl dX12_tagEnds_247 ?_
                        refine lv_iload_n C.1 C.2.1 dX12_tagEnds_250 rfl (lv_at hl 0 rfl) ?_
                        refine m_iald C w (k := 150) (i := t) (n := 17) (wr := true) (by decide) rfl (by omega) (by decide) dX12_tagEnds_251 ?_
                        refine lv_i2b (v := mm_b (M_16.1 150 t)) C.1 C.2.1 dX12_tagEnds_252 rfl ?_
                        refine m_bast C w (k := 156) (i := t) (n := 16) (x := (mm_b (M_16.1 150 t))) (by decide) rfl (by omega) (by decide) (mm_bb _) dX12_tagEnds_253 (fun H locs w => ?_)
                        obtain ⟨M_18, eM_18⟩ : ∃ zz, zz = mm_w M_16 156 t (mm_b (M_16.1 150 t)) := ⟨_, rfl⟩
                        rw [← eM_18] at w
                        refine lv_iinc (v := (nI (t + 1))) (lv' := [(3, .int (nI (t + 1))), (0, .ref (r (117))), (1, .int (v1)), (2, .int (v2))]) C.1 C.2.1 dX12_tagEnds_254 hl (k := 0) rfl (nI_add t 1) (by decide) rfl (fun ls hl => ?_)
                        refine lv_goto (tgt := 235) C.1 C.2.1 dX12_tagEnds_257 (by decide) ?_
                        have h9 : lv_has ls 4 [(3, .int (nI (t + 1))), (0, .ref (r (117))), (1, .int (v1)), (2, .int (v2))] := lv_sub hl [0, 1, 2, 3] rfl
                        have hlZ : lv_has ls 4 [(3, .int (nI (t + 1))), (0, .ref (r (117))), (1, .int (v1)), (2, .int (v2))] := h9
                        have wZ := w
                        subst eM_16 eM_18
                        refine ih (t + 1) (by omega) _ _ _ (wZ) ?_
                        exact hlZ
                    exact loop 16 0 (by omega) _ _ ls w hl
                  | succ k ih =>
                    intro t ht H locs ls w hl
                    obtain ⟨M_19, eM_19⟩ : ∃ zz, zz = f_X12_tagEnds_L184 M_9 t := ⟨_, rfl⟩
                    rw [← eM_19] at w
                    refine lv_iload_n C.1 C.2.1 dX12_tagEnds_184 rfl (lv_at hl 0 rfl) ?_
                    refine lv_bipush (v := 17) C.1 C.2.1 dX12_tagEnds_185 (by decide) ?_
                    refine m_icmp_ge (tgt := 225) (a := t) (b := 17) C (by omega) (by omega) dX12_tagEnds_187 (by decide) (fun h_20 => absurd h_20 (by omega)) (fun _ => ?_)
                    refine lv_aload_n C.1 C.2.1 dX12_tagEnds_190 rfl (lv_at hl 1 rfl) ?_
                    refine m_get C w (k := 117) (j := 37) (v := .ref (r (152))) flX12_186 (by decide) rfl rfl dX12_tagEnds_191 ?_
                    refine lv_iload_n C.1 C.2.1 dX12_tagEnds_194 rfl (lv_at hl 0 rfl) ?_
                    refine lv_iload_n C.1 C.2.1 dX12_tagEnds_195 rfl (lv_at hl 0 rfl) ?_
                    refine lv_bipush (v := 16) C.1 C.2.1 dX12_tagEnds_196 (by decide) ?_
                    refine m_icmp_ge (tgt := 217) (a := t) (b := 16) C (by omega) (by omega) dX12_tagEnds_198 (by decide) (fun h_21 => ?_) (fun h_21 => ?_)
                    · refine lv_iconst (v := 0) C.1 C.2.1 dX12_tagEnds_217 (by decide) ?_
                      refine m_iast C w (k := 152) (i := t) (n := 17) (x := (0 : Int32)) (by decide) rfl (by omega) (by decide) dX12_tagEnds_218 (fun H locs w => ?_)
                      obtain ⟨M_22, eM_22⟩ : ∃ zz, zz = mm_w M_19 152 t (0 : Int32) := ⟨_, rfl⟩
                      rw [← eM_22] at w
                      refine lv_iinc (v := (nI (t + 1))) (lv' := [(3, .int (nI (t + 1))), (0, .ref (r (117))), (1, .int (v1)), (2, .int (v2))]) C.1 C.2.1 dX12_tagEnds_219 hl (k := 0) rfl (nI_add t 1) (by decide) rfl (fun ls hl => ?_)
                      refine lv_goto (tgt := 184) C.1 C.2.1 dX12_tagEnds_222 (by decide) ?_
                      have h9 : lv_has ls 4 [(3, .int (nI (t + 1))), (0, .ref (r (117))), (1, .int (v1)), (2, .int (v2))] := lv_sub hl [0, 1, 2, 3] rfl
                      have hlZ : lv_has ls 4 [(3, .int (nI (t + 1))), (0, .ref (r (117))), (1, .int (v1)), (2, .int (v2))] := h9
                      have wZ := w
                      subst eM_19 eM_22
                      refine ih (t + 1) (by omega) _ _ _ (m_w (Eq.symm (congrArg (fun z => z) (show f_X12_tagEnds_L184 M_9 (t + 1) = _ from ((if_pos h_21).trans rfl)))) wZ) ?_
                      exact hlZ
                    · refine lv_aload_n C.1 C.2.1 dX12_tagEnds_201 rfl (lv_at hl 1 rfl) ?_
                      refine m_get C w (k := 117) (j := 40) (v := .ref (r (155))) flX12_195 (by decide) rfl rfl dX12_tagEnds_202 ?_
                      refine lv_bipush (v := 16) C.1 C.2.1 dX12_tagEnds_205 (by decide) ?_
                      refine lv_iload_n C.1 C.2.1 dX12_tagEnds_207 rfl (lv_at hl 0 rfl) ?_
                      refine lv_iadd C.1 C.2.1 dX12_tagEnds_208 ?_
                      refine m_i (y := nI (16 + t)) (nI_add 16 t) ?_
                      refine m_bald C w (k := 155) (i := 16 + t) (n := 32) (wr := true) (by decide) rfl (by omega) (by decide) dX12_tagEnds_209 ?_
                      refine lv_sipush (v := 255) C.1 C.2.1 dX12_tagEnds_210 (by decide) ?_
                      refine lv_iand C.1 C.2.1 dX12_tagEnds_213 ?_
                      refine lv_goto (tgt := 218) C.1 C.2.1 dX12_tagEnds_214 (by decide) ?_
                      refine m_iast C w (k := 152) (i := t) (n := 17) (x := ((M_19.1 155 (16 + t)) &&& (255 : Int32))) (by decide) rfl (by omega) (by decide) dX12_tagEnds_218 (fun H locs w => ?_)
                      obtain ⟨M_23, eM_23⟩ : ∃ zz, zz = mm_w M_19 152 t ((M_19.1 155 (16 + t)) &&& (255 : Int32)) := ⟨_, rfl⟩
                      rw [← eM_23] at w
                      refine lv_iinc (v := (nI (t + 1))) (lv' := [(3, .int (nI (t + 1))), (0, .ref (r (117))), (1, .int (v1)), (2, .int (v2))]) C.1 C.2.1 dX12_tagEnds_219 hl (k := 0) rfl (nI_add t 1) (by decide) rfl (fun ls hl => ?_)
                      refine lv_goto (tgt := 184) C.1 C.2.1 dX12_tagEnds_222 (by decide) ?_
                      have h9 : lv_has ls 4 [(3, .int (nI (t + 1))), (0, .ref (r (117))), (1, .int (v1)), (2, .int (v2))] := lv_sub hl [0, 1, 2, 3] rfl
                      have hlZ : lv_has ls 4 [(3, .int (nI (t + 1))), (0, .ref (r (117))), (1, .int (v1)), (2, .int (v2))] := h9
                      have wZ := w
                      subst eM_19 eM_23
                      refine ih (t + 1) (by omega) _ _ _ (m_w (Eq.symm (congrArg (fun z => z) (show f_X12_tagEnds_L184 M_9 (t + 1) = _ from ((if_neg (Nat.not_le.mpr h_21)).trans rfl)))) wZ) ?_
                      exact hlZ
                exact loop 17 0 (by omega) _ _ ls w hl
              · refine lv_iconst (v := 0) C.1 C.2.1 dX12_tagEnds_156 (by decide) ?_
                refine lv_istore_n (lv' := [(3, .int 0), (0, .ref (r (117))), (1, .int (v1)), (2, .int (v2))]) C.1 C.2.1 dX12_tagEnds_157 rfl hl (by decide) rfl (fun ls hl => ?_)
                have loop : ∀ (k t : Nat), t + k = 17 → ∀ (H : Heap) (locs : List Loc) (ls : Array Slot), mm_W D b0 r (f_X12_tagEnds_L158 M_9 t) s H locs → lv_has ls 4 [(3, .int (nI (t))), (0, .ref (r (117))), (1, .int (v1)), (2, .int (v2))] → W p l e (mm_rm 2 45) s m args below meth c H locs 0 0 (MQ below (va_Qv (fun M' => M' = f_X12_tagEnds v1 v2 M) (mm_U D b0 r) (fun q => b0 ≤ q)) args s 0 0 (fun q => b0 ≤ q)) (F0 m 158 ls []) := by
                  intro k
                  induction k with
                  | zero =>
                    intro t ht H locs ls w hl
                    obtain rfl : 17 = t := by omega
                    obtain ⟨M_24, eM_24⟩ : ∃ zz, zz = f_X12_tagEnds_L158 M_9 17 := ⟨_, rfl⟩
                    rw [← eM_24] at w
                    refine lv_iload_n C.1 C.2.1 dX12_tagEnds_158 rfl (lv_at hl 0 rfl) ?_
                    refine lv_bipush (v := 17) C.1 C.2.1 dX12_tagEnds_159 (by decide) ?_
                    refine m_icmp_ge (tgt := 182) (a := 17) (b := 17) C (by omega) (by omega) dX12_tagEnds_161 (by decide) (fun _ => ?_) (fun h_25 => absurd h_25 (by omega))
                    refine lv_iconst (v := 0) C.1 C.2.1 dX12_tagEnds_182 (by decide) ?_
                    refine lv_istore_n (lv' := [(3, .int 0), (0, .ref (r (117))), (1, .int (v1)), (2, .int (v2))]) C.1 C.2.1 dX12_tagEnds_183 rfl hl (by decide) rfl (fun ls hl => ?_)
                    have loop : ∀ (k t : Nat), t + k = 17 → ∀ (H : Heap) (locs : List Loc) (ls : Array Slot), mm_W D b0 r (f_X12_tagEnds_L184 M_24 t) s H locs → lv_has ls 4 [(3, .int (nI (t))), (0, .ref (r (117))), (1, .int (v1)), (2, .int (v2))] → W p l e (mm_rm 2 45) s m args below meth c H locs 0 0 (MQ below (va_Qv (fun M' => M' = f_X12_tagEnds v1 v2 M) (mm_U D b0 r) (fun q => b0 ≤ q)) args s 0 0 (fun q => b0 ≤ q)) (F0 m 184 ls []) := by
                      intro k
                      induction k with
                      | zero =>
                        intro t ht H locs ls w hl
                        obtain rfl : 17 = t := by omega
                        obtain ⟨M_26, eM_26⟩ : ∃ zz, zz = f_X12_tagEnds_L184 M_24 17 := ⟨_, rfl⟩
                        rw [← eM_26] at w
                        refine lv_iload_n C.1 C.2.1 dX12_tagEnds_184 rfl (lv_at hl 0 rfl) ?_
                        refine lv_bipush (v := 17) C.1 C.2.1 dX12_tagEnds_185 (by decide) ?_
                        refine m_icmp_ge (tgt := 225) (a := 17) (b := 17) C (by omega) (by omega) dX12_tagEnds_187 (by decide) (fun _ => ?_) (fun h_27 => absurd h_27 (by omega))
                        refine lv_aload_n C.1 C.2.1 dX12_tagEnds_225 rfl (lv_at hl 1 rfl) ?_
                        refine lv_aload_n C.1 C.2.1 dX12_tagEnds_226 rfl (lv_at hl 1 rfl) ?_
                        refine m_get C w (k := 117) (j := 37) (v := .ref (r (152))) flX12_186 (by decide) rfl rfl dX12_tagEnds_227 ?_
                        refine m_cvv C w hl cvX12_342 (k := 117) (by decide) rfl (q := (RX12, TX12, 58)) rfl rfl (As := [.ref (r (152))]) (rest := []) (c_X12_plus l D b0 r M_26 152 (by decide) rfl (by decide) (by omega)) rfl rfl (Nat.le_of_ble_eq_true rfl) ⟨Nat.le_of_ble_eq_true rfl, Nat.le_of_ble_eq_true rfl⟩ ⟨Nat.zero_le _, Nat.zero_le _⟩ dX12_tagEnds_230 (fun M_28 H locs eM_28 w => ?_)
                        refine lv_iconst (v := 0) C.1 C.2.1 dX12_tagEnds_233 (by decide) ?_
                        refine lv_istore_n (lv' := [(3, .int 0), (0, .ref (r (117))), (1, .int (v1)), (2, .int (v2))]) C.1 C.2.1 dX12_tagEnds_234 rfl hl (by decide) rfl (fun ls hl => ?_)
                        have loop : ∀ (k t : Nat), t + k = 16 → ∀ (H : Heap) (locs : List Loc) (ls : Array Slot), mm_W D b0 r (f_X12_tagEnds_L235 M_28 t) s H locs → lv_has ls 4 [(3, .int (nI (t))), (0, .ref (r (117))), (1, .int (v1)), (2, .int (v2))] → W p l e (mm_rm 2 45) s m args below meth c H locs 0 0 (MQ below (va_Qv (fun M' => M' = f_X12_tagEnds v1 v2 M) (mm_U D b0 r) (fun q => b0 ≤ q)) args s 0 0 (fun q => b0 ≤ q)) (F0 m 235 ls []) := by
                          intro k
                          induction k with
                          | zero =>
                            intro t ht H locs ls w hl
                            obtain rfl : 16 = t := by omega
                            obtain ⟨M_29, eM_29⟩ : ∃ zz, zz = f_X12_tagEnds_L235 M_28 16 := ⟨_, rfl⟩
                            rw [← eM_29] at w
                            refine lv_iload_n C.1 C.2.1 dX12_tagEnds_235 rfl (lv_at hl 0 rfl) ?_
                            refine lv_bipush (v := 16) C.1 C.2.1 dX12_tagEnds_236 (by decide) ?_
                            refine m_icmp_ge (tgt := 260) (a := 16) (b := 16) C (by omega) (by omega) dX12_tagEnds_238 (by decide) (fun _ => ?_) (fun h_30 => absurd h_30 (by omega))
                            exact m_vret C w (by subst eM_1 eM_3 eM_5 eM_6 eM_7 eM_9 eM_24 eM_26 eM_28 eM_29; exact Eq.symm (((if_neg (fun q => q h_10)).trans rfl))) dX12_tagEnds_260
                          | succ k ih =>
                            intro t ht H locs ls w hl
                            obtain ⟨M_31, eM_31⟩ : ∃ zz, zz = f_X12_tagEnds_L235 M_28 t := ⟨_, rfl⟩
                            rw [← eM_31] at w
                            refine lv_iload_n C.1 C.2.1 dX12_tagEnds_235 rfl (lv_at hl 0 rfl) ?_
                            refine lv_bipush (v := 16) C.1 C.2.1 dX12_tagEnds_236 (by decide) ?_
                            refine m_icmp_ge (tgt := 260) (a := t) (b := 16) C (by omega) (by omega) dX12_tagEnds_238 (by decide) (fun h_32 => absurd h_32 (by omega)) (fun _ => ?_)
                            refine lv_aload_n C.1 C.2.1 dX12_tagEnds_241 rfl (lv_at hl 1 rfl) ?_
                            refine m_get C w (k := 117) (j := 41) (v := .ref (r (156))) flX12_198 (by decide) rfl rfl dX12_tagEnds_242 ?_
                            refine lv_iload_n C.1 C.2.1 dX12_tagEnds_245 rfl (lv_at hl 0 rfl) ?_
                            refine lv_aload_n C.1 C.2.1 dX12_tagEnds_246 rfl (lv_at hl 1 rfl) ?_
                            refine m_get C w (k := 117) (j := 35) (v := .ref (r (150))) flX12_180 (by decide) rfl rfl dX12_tagEnds_247 ?_
                            refine lv_iload_n C.1 C.2.1 dX12_tagEnds_250 rfl (lv_at hl 0 rfl) ?_
                            refine m_iald C w (k := 150) (i := t) (n := 17) (wr := true) (by decide) rfl (by omega) (by decide) dX12_tagEnds_251 ?_
                            refine lv_i2b (v := mm_b (M_31.1 150 t)) C.1 C.2.1 dX12_tagEnds_252 rfl ?_
                            refine m_bast C w (k := 156) (i := t) (n := 16) (x := (mm_b (M_31.1 150 t))) (by decide) rfl (by omega) (by decide) (mm_bb _) dX12_tagEnds_253 (fun H locs w => ?_)
                            obtain ⟨M_33, eM_33⟩ : ∃ zz, zz = mm_w M_31 156 t (mm_b (M_31.1 150 t)) := ⟨_, rfl⟩
                            rw [← eM_33] at w
                            refine lv_iinc (v := (nI (t + 1))) (lv' := [(3, .int (nI (t + 1))), (0, .ref (r (117))), (1, .int (v1)), (2, .int (v2))]) C.1 C.2.1 dX12_tagEnds_254 hl (k := 0) rfl (nI_add t 1) (by decide) rfl (fun ls hl => ?_)
                            refine lv_goto (tgt := 235) C.1 C.2.1 dX12_tagEnds_257 (by decide) ?_
                            have h9 : lv_has ls 4 [(3, .int (nI (t + 1))), (0, .ref (r (117))), (1, .int (v1)), (2, .int (v2))] := lv_sub hl [0, 1, 2, 3] rfl
                            have hlZ : lv_has ls 4 [(3, .int (nI (t + 1))), (0, .ref (r (117))), (1, .int (v1)), (2, .int (v2))] := h9
                            have wZ := w
                            subst eM_31 eM_33
                            refine ih (t + 1) (by omega) _ _ _ (wZ) ?_
                            exact hlZ
                        exact loop 16 0 (by omega) _ _ ls w hl
                      | succ k ih =>
                        intro t ht H locs ls w hl
                        obtain ⟨M_34, eM_34⟩ : ∃ zz, zz = f_X12_tagEnds_L184 M_24 t := ⟨_, rfl⟩
                        rw [← eM_34] at w
                        refine lv_iload_n C.1 C.2.1 dX12_tagEnds_184 rfl (lv_at hl 0 rfl) ?_
                        refine lv_bipush (v := 17) C.1 C.2.1 dX12_tagEnds_185 (by decide) ?_
                        refine m_icmp_ge (tgt := 225) (a := t) (b := 17) C (by omega) (by omega) dX12_tagEnds_187 (by decide) (fun h_35 => absurd h_35 (by omega)) (fun _ => ?_)
                        refine lv_aload_n C.1 C.2.1 dX12_tagEnds_190 rfl (lv_at hl 1 rfl) ?_
                        refine m_get C w (k := 117) (j := 37) (v := .ref (r (152))) flX12_186 (by decide) rfl rfl dX12_tagEnds_191 ?_
                        refine lv_iload_n C.1 C.2.1 dX12_tagEnds_194 rfl (lv_at hl 0 rfl) ?_
                        refine lv_iload_n C.1 C.2.1 dX12_tagEnds_195 rfl (lv_at hl 0 rfl) ?_
                        refine lv_bipush (v := 16) C.1 C.2.1 dX12_tagEnds_196 (by decide) ?_
                        refine m_icmp_ge (tgt := 217) (a := t) (b := 16) C (by omega) (by omega) dX12_tagEnds_198 (by decide) (fun h_36 => ?_) (fun h_36 => ?_)
                        · refine lv_iconst (v := 0) C.1 C.2.1 dX12_tagEnds_217 (by decide) ?_
                          refine m_iast C w (k := 152) (i := t) (n := 17) (x := (0 : Int32)) (by decide) rfl (by omega) (by decide) dX12_tagEnds_218 (fun H locs w => ?_)
                          obtain ⟨M_37, eM_37⟩ : ∃ zz, zz = mm_w M_34 152 t (0 : Int32) := ⟨_, rfl⟩
                          rw [← eM_37] at w
                          refine lv_iinc (v := (nI (t + 1))) (lv' := [(3, .int (nI (t + 1))), (0, .ref (r (117))), (1, .int (v1)), (2, .int (v2))]) C.1 C.2.1 dX12_tagEnds_219 hl (k := 0) rfl (nI_add t 1) (by decide) rfl (fun ls hl => ?_)
                          refine lv_goto (tgt := 184) C.1 C.2.1 dX12_tagEnds_222 (by decide) ?_
                          have h9 : lv_has ls 4 [(3, .int (nI (t + 1))), (0, .ref (r (117))), (1, .int (v1)), (2, .int (v2))] := lv_sub hl [0, 1, 2, 3] rfl
                          have hlZ : lv_has ls 4 [(3, .int (nI (t + 1))), (0, .ref (r (117))), (1, .int (v1)), (2, .int (v2))] := h9
                          have wZ := w
                          subst eM_34 eM_37
                          refine ih (t + 1) (by omega) _ _ _ (m_w (Eq.symm (congrArg (fun z => z) (show f_X12_tagEnds_L184 M_24 (t + 1) = _ from ((if_pos h_36).trans rfl)))) wZ) ?_
                          exact hlZ
                        · refine lv_aload_n C.1 C.2.1 dX12_tagEnds_201 rfl (lv_at hl 1 rfl) ?_
                          refine m_get C w (k := 117) (j := 40) (v := .ref (r (155))) flX12_195 (by decide) rfl rfl dX12_tagEnds_202 ?_
                          refine lv_bipush (v := 16) C.1 C.2.1 dX12_tagEnds_205 (by decide) ?_
                          refine lv_iload_n C.1 C.2.1 dX12_tagEnds_207 rfl (lv_at hl 0 rfl) ?_
                          refine lv_iadd C.1 C.2.1 dX12_tagEnds_208 ?_
                          refine m_i (y := nI (16 + t)) (nI_add 16 t) ?_
                          refine m_bald C w (k := 155) (i := 16 + t) (n := 32) (wr := true) (by decide) rfl (by omega) (by decide) dX12_tagEnds_209 ?_
                          refine lv_sipush (v := 255) C.1 C.2.1 dX12_tagEnds_210 (by decide) ?_
                          refine lv_iand C.1 C.2.1 dX12_tagEnds_213 ?_
                          refine lv_goto (tgt := 218) C.1 C.2.1 dX12_tagEnds_214 (by decide) ?_
                          refine m_iast C w (k := 152) (i := t) (n := 17) (x := ((M_34.1 155 (16 + t)) &&& (255 : Int32))) (by decide) rfl (by omega) (by decide) dX12_tagEnds_218 (fun H locs w => ?_)
                          obtain ⟨M_38, eM_38⟩ : ∃ zz, zz = mm_w M_34 152 t ((M_34.1 155 (16 + t)) &&& (255 : Int32)) := ⟨_, rfl⟩
                          rw [← eM_38] at w
                          refine lv_iinc (v := (nI (t + 1))) (lv' := [(3, .int (nI (t + 1))), (0, .ref (r (117))), (1, .int (v1)), (2, .int (v2))]) C.1 C.2.1 dX12_tagEnds_219 hl (k := 0) rfl (nI_add t 1) (by decide) rfl (fun ls hl => ?_)
                          refine lv_goto (tgt := 184) C.1 C.2.1 dX12_tagEnds_222 (by decide) ?_
                          have h9 : lv_has ls 4 [(3, .int (nI (t + 1))), (0, .ref (r (117))), (1, .int (v1)), (2, .int (v2))] := lv_sub hl [0, 1, 2, 3] rfl
                          have hlZ : lv_has ls 4 [(3, .int (nI (t + 1))), (0, .ref (r (117))), (1, .int (v1)), (2, .int (v2))] := h9
                          have wZ := w
                          subst eM_34 eM_38
                          refine ih (t + 1) (by omega) _ _ _ (m_w (Eq.symm (congrArg (fun z => z) (show f_X12_tagEnds_L184 M_24 (t + 1) = _ from ((if_neg (Nat.not_le.mpr h_36)).trans rfl)))) wZ) ?_
                          exact hlZ
                    exact loop 17 0 (by omega) _ _ ls w hl
                  | succ k ih =>
                    intro t ht H locs ls w hl
                    obtain ⟨M_39, eM_39⟩ : ∃ zz, zz = f_X12_tagEnds_L158 M_9 t := ⟨_, rfl⟩
                    rw [← eM_39] at w
                    refine lv_iload_n C.1 C.2.1 dX12_tagEnds_158 rfl (lv_at hl 0 rfl) ?_
                    refine lv_bipush (v := 17) C.1 C.2.1 dX12_tagEnds_159 (by decide) ?_
                    refine m_icmp_ge (tgt := 182) (a := t) (b := 17) C (by omega) (by omega) dX12_tagEnds_161 (by decide) (fun h_40 => absurd h_40 (by omega)) (fun _ => ?_)
                    refine lv_aload_n C.1 C.2.1 dX12_tagEnds_164 rfl (lv_at hl 1 rfl) ?_
                    refine m_get C w (k := 117) (j := 35) (v := .ref (r (150))) flX12_180 (by decide) rfl rfl dX12_tagEnds_165 ?_
                    refine lv_iload_n C.1 C.2.1 dX12_tagEnds_168 rfl (lv_at hl 0 rfl) ?_
                    refine lv_aload_n C.1 C.2.1 dX12_tagEnds_169 rfl (lv_at hl 1 rfl) ?_
                    refine m_get C w (k := 117) (j := 39) (v := .ref (r (154))) flX12_192 (by decide) rfl rfl dX12_tagEnds_170 ?_
                    refine lv_iload_n C.1 C.2.1 dX12_tagEnds_173 rfl (lv_at hl 0 rfl) ?_
                    refine m_iald C w (k := 154) (i := t) (n := 17) (wr := true) (by decide) rfl (by omega) (by decide) dX12_tagEnds_174 ?_
                    refine m_iast C w (k := 150) (i := t) (n := 17) (x := (M_39.1 154 t)) (by decide) rfl (by omega) (by decide) dX12_tagEnds_175 (fun H locs w => ?_)
                    obtain ⟨M_41, eM_41⟩ : ∃ zz, zz = mm_w M_39 150 t (M_39.1 154 t) := ⟨_, rfl⟩
                    rw [← eM_41] at w
                    refine lv_iinc (v := (nI (t + 1))) (lv' := [(3, .int (nI (t + 1))), (0, .ref (r (117))), (1, .int (v1)), (2, .int (v2))]) C.1 C.2.1 dX12_tagEnds_176 hl (k := 0) rfl (nI_add t 1) (by decide) rfl (fun ls hl => ?_)
                    refine lv_goto (tgt := 158) C.1 C.2.1 dX12_tagEnds_179 (by decide) ?_
                    have h9 : lv_has ls 4 [(3, .int (nI (t + 1))), (0, .ref (r (117))), (1, .int (v1)), (2, .int (v2))] := lv_sub hl [0, 1, 2, 3] rfl
                    have hlZ : lv_has ls 4 [(3, .int (nI (t + 1))), (0, .ref (r (117))), (1, .int (v1)), (2, .int (v2))] := h9
                    have wZ := w
                    subst eM_39 eM_41
                    refine ih (t + 1) (by omega) _ _ _ (wZ) ?_
                    exact hlZ
                exact loop 17 0 (by omega) _ _ ls w hl
            | succ k ih =>
              intro t ht H locs ls w hl
              obtain ⟨M_42, eM_42⟩ : ∃ zz, zz = f_X12_tagEnds_L83 M_6 t := ⟨_, rfl⟩
              rw [← eM_42] at w
              refine lv_iload_n C.1 C.2.1 dX12_tagEnds_83 rfl (lv_at hl 0 rfl) ?_
              refine lv_bipush (v := 17) C.1 C.2.1 dX12_tagEnds_84 (by decide) ?_
              refine m_icmp_ge (tgt := 134) (a := t) (b := 17) C (by omega) (by omega) dX12_tagEnds_86 (by decide) (fun h_43 => absurd h_43 (by omega)) (fun _ => ?_)
              refine lv_aload_n C.1 C.2.1 dX12_tagEnds_89 rfl (lv_at hl 1 rfl) ?_
              refine m_get C w (k := 117) (j := 39) (v := .ref (r (154))) flX12_192 (by decide) rfl rfl dX12_tagEnds_90 ?_
              refine lv_iload_n C.1 C.2.1 dX12_tagEnds_93 rfl (lv_at hl 0 rfl) ?_
              refine lv_aload_n C.1 C.2.1 dX12_tagEnds_94 rfl (lv_at hl 1 rfl) ?_
              refine m_get C w (k := 117) (j := 35) (v := .ref (r (150))) flX12_180 (by decide) rfl rfl dX12_tagEnds_95 ?_
              refine lv_iload_n C.1 C.2.1 dX12_tagEnds_98 rfl (lv_at hl 0 rfl) ?_
              refine m_iald C w (k := 150) (i := t) (n := 17) (wr := true) (by decide) rfl (by omega) (by decide) dX12_tagEnds_99 ?_
              refine m_iast C w (k := 154) (i := t) (n := 17) (x := (M_42.1 150 t)) (by decide) rfl (by omega) (by decide) dX12_tagEnds_100 (fun H locs w => ?_)
              obtain ⟨M_44, eM_44⟩ : ∃ zz, zz = mm_w M_42 154 t (M_42.1 150 t) := ⟨_, rfl⟩
              rw [← eM_44] at w
              refine lv_aload_n C.1 C.2.1 dX12_tagEnds_101 rfl (lv_at hl 1 rfl) ?_
              refine m_get C w (k := 117) (j := 37) (v := .ref (r (152))) flX12_186 (by decide) rfl rfl dX12_tagEnds_102 ?_
              refine lv_iload_n C.1 C.2.1 dX12_tagEnds_105 rfl (lv_at hl 0 rfl) ?_
              refine lv_iload_n C.1 C.2.1 dX12_tagEnds_106 rfl (lv_at hl 0 rfl) ?_
              refine m_if_ne (tgt := 114) (a := t) C (by omega) dX12_tagEnds_107 (by decide) (fun h_45 => ?_) (fun h_45 => ?_)
              · refine lv_iload_n C.1 C.2.1 dX12_tagEnds_114 rfl (lv_at hl 0 rfl) ?_
                refine lv_bipush (v := 16) C.1 C.2.1 dX12_tagEnds_115 (by decide) ?_
                refine m_icmp_ne (tgt := 126) (a := t) (b := 16) C (by omega) (by omega) dX12_tagEnds_117 (by decide) (fun h_46 => ?_) (fun h_46 => ?_)
                · refine lv_iconst (v := 0) C.1 C.2.1 dX12_tagEnds_126 (by decide) ?_
                  refine m_iast C w (k := 152) (i := t) (n := 17) (x := (0 : Int32)) (by decide) rfl (by omega) (by decide) dX12_tagEnds_127 (fun H locs w => ?_)
                  obtain ⟨M_47, eM_47⟩ : ∃ zz, zz = mm_w M_44 152 t (0 : Int32) := ⟨_, rfl⟩
                  rw [← eM_47] at w
                  refine lv_iinc (v := (nI (t + 1))) (lv' := [(3, .int (nI (t + 1))), (0, .ref (r (117))), (1, .int (v1)), (2, .int (v2))]) C.1 C.2.1 dX12_tagEnds_128 hl (k := 0) rfl (nI_add t 1) (by decide) rfl (fun ls hl => ?_)
                  refine lv_goto (tgt := 83) C.1 C.2.1 dX12_tagEnds_131 (by decide) ?_
                  have h9 : lv_has ls 4 [(3, .int (nI (t + 1))), (0, .ref (r (117))), (1, .int (v1)), (2, .int (v2))] := lv_sub hl [0, 1, 2, 3] rfl
                  have hlZ : lv_has ls 4 [(3, .int (nI (t + 1))), (0, .ref (r (117))), (1, .int (v1)), (2, .int (v2))] := h9
                  have wZ := w
                  subst eM_42 eM_44 eM_47
                  refine ih (t + 1) (by omega) _ _ _ (m_w (Eq.symm (congrArg (fun z => z) (show f_X12_tagEnds_L83 M_6 (t + 1) = _ from ((if_pos h_45).trans ((if_pos h_46).trans rfl))))) wZ) ?_
                  exact hlZ
                · refine lv_sipush (v := 252) C.1 C.2.1 dX12_tagEnds_120 (by decide) ?_
                  refine lv_goto (tgt := 127) C.1 C.2.1 dX12_tagEnds_123 (by decide) ?_
                  refine m_iast C w (k := 152) (i := t) (n := 17) (x := (252 : Int32)) (by decide) rfl (by omega) (by decide) dX12_tagEnds_127 (fun H locs w => ?_)
                  obtain ⟨M_48, eM_48⟩ : ∃ zz, zz = mm_w M_44 152 t (252 : Int32) := ⟨_, rfl⟩
                  rw [← eM_48] at w
                  refine lv_iinc (v := (nI (t + 1))) (lv' := [(3, .int (nI (t + 1))), (0, .ref (r (117))), (1, .int (v1)), (2, .int (v2))]) C.1 C.2.1 dX12_tagEnds_128 hl (k := 0) rfl (nI_add t 1) (by decide) rfl (fun ls hl => ?_)
                  refine lv_goto (tgt := 83) C.1 C.2.1 dX12_tagEnds_131 (by decide) ?_
                  have h9 : lv_has ls 4 [(3, .int (nI (t + 1))), (0, .ref (r (117))), (1, .int (v1)), (2, .int (v2))] := lv_sub hl [0, 1, 2, 3] rfl
                  have hlZ : lv_has ls 4 [(3, .int (nI (t + 1))), (0, .ref (r (117))), (1, .int (v1)), (2, .int (v2))] := h9
                  have wZ := w
                  subst eM_42 eM_44 eM_48
                  refine ih (t + 1) (by omega) _ _ _ (m_w (Eq.symm (congrArg (fun z => z) (show f_X12_tagEnds_L83 M_6 (t + 1) = _ from ((if_pos h_45).trans ((if_neg (fun q => q h_46)).trans rfl))))) wZ) ?_
                  exact hlZ
              · refine lv_iconst (v := 5) C.1 C.2.1 dX12_tagEnds_110 (by decide) ?_
                refine lv_goto (tgt := 127) C.1 C.2.1 dX12_tagEnds_111 (by decide) ?_
                refine m_iast C w (k := 152) (i := t) (n := 17) (x := (5 : Int32)) (by decide) rfl (by omega) (by decide) dX12_tagEnds_127 (fun H locs w => ?_)
                obtain ⟨M_49, eM_49⟩ : ∃ zz, zz = mm_w M_44 152 t (5 : Int32) := ⟨_, rfl⟩
                rw [← eM_49] at w
                refine lv_iinc (v := (nI (t + 1))) (lv' := [(3, .int (nI (t + 1))), (0, .ref (r (117))), (1, .int (v1)), (2, .int (v2))]) C.1 C.2.1 dX12_tagEnds_128 hl (k := 0) rfl (nI_add t 1) (by decide) rfl (fun ls hl => ?_)
                refine lv_goto (tgt := 83) C.1 C.2.1 dX12_tagEnds_131 (by decide) ?_
                have h9 : lv_has ls 4 [(3, .int (nI (t + 1))), (0, .ref (r (117))), (1, .int (v1)), (2, .int (v2))] := lv_sub hl [0, 1, 2, 3] rfl
                have hlZ : lv_has ls 4 [(3, .int (nI (t + 1))), (0, .ref (r (117))), (1, .int (v1)), (2, .int (v2))] := h9
                have wZ := w
                subst eM_42 eM_44 eM_49
                refine ih (t + 1) (by omega) _ _ _ (m_w (Eq.symm (congrArg (fun z => z) (show f_X12_tagEnds_L83 M_6 (t + 1) = _ from ((if_neg (fun q => q h_45)).trans rfl)))) wZ) ?_
                exact hlZ
          exact loop 17 0 (by omega) _ _ ls w hl
        | succ k ih =>
          intro t ht H locs ls w hl
          obtain ⟨M_50, eM_50⟩ : ∃ zz, zz = f_X12_tagEnds_L23 v1 v2 M_1 t := ⟨_, rfl⟩
          rw [← eM_50] at w
          refine lv_iload_n C.1 C.2.1 dX12_tagEnds_23 rfl (lv_at hl 0 rfl) ?_
          refine lv_iconst (v := 4) C.1 C.2.1 dX12_tagEnds_24 (by decide) ?_
          refine m_icmp_ge (tgt := 69) (a := t) (b := 4) C (by omega) (by omega) dX12_tagEnds_25 (by decide) (fun h_51 => absurd h_51 (by omega)) (fun _ => ?_)
          refine lv_aload_n C.1 C.2.1 dX12_tagEnds_28 rfl (lv_at hl 1 rfl) ?_
          refine m_get C w (k := 117) (j := 37) (v := .ref (r (152))) flX12_186 (by decide) rfl rfl dX12_tagEnds_29 ?_
          refine lv_iload_n C.1 C.2.1 dX12_tagEnds_32 rfl (lv_at hl 0 rfl) ?_
          refine lv_iload_n C.1 C.2.1 dX12_tagEnds_33 rfl (lv_at hl 2 rfl) ?_
          refine lv_bipush (v := 8) C.1 C.2.1 dX12_tagEnds_34 (by decide) ?_
          refine lv_iload_n C.1 C.2.1 dX12_tagEnds_36 rfl (lv_at hl 0 rfl) ?_
          refine lv_imul C.1 C.2.1 dX12_tagEnds_37 ?_
          refine m_i (y := nI (8 * t)) (pk_mul 8 t) ?_
          refine lv_ishr C.1 C.2.1 dX12_tagEnds_38 ?_
          refine lv_sipush (v := 255) C.1 C.2.1 dX12_tagEnds_39 (by decide) ?_
          refine lv_iand C.1 C.2.1 dX12_tagEnds_42 ?_
          refine m_iast C w (k := 152) (i := t) (n := 17) (x := (((v1) >>> ((nI (8 * t)) &&& 31)) &&& (255 : Int32))) (by decide) rfl (by omega) (by decide) dX12_tagEnds_43 (fun H locs w => ?_)
          obtain ⟨M_52, eM_52⟩ : ∃ zz, zz = mm_w M_50 152 t (((v1) >>> ((nI (8 * t)) &&& 31)) &&& (255 : Int32)) := ⟨_, rfl⟩
          rw [← eM_52] at w
          refine lv_aload_n C.1 C.2.1 dX12_tagEnds_44 rfl (lv_at hl 1 rfl) ?_
          refine m_get C w (k := 117) (j := 37) (v := .ref (r (152))) flX12_186 (by decide) rfl rfl dX12_tagEnds_45 ?_
          refine lv_bipush (v := 8) C.1 C.2.1 dX12_tagEnds_48 (by decide) ?_
          refine lv_iload_n C.1 C.2.1 dX12_tagEnds_50 rfl (lv_at hl 0 rfl) ?_
          refine lv_iadd C.1 C.2.1 dX12_tagEnds_51 ?_
          refine m_i (y := nI (8 + t)) (nI_add 8 t) ?_
          refine lv_iload_n C.1 C.2.1 dX12_tagEnds_52 rfl (lv_at hl 3 rfl) ?_
          refine lv_bipush (v := 8) C.1 C.2.1 dX12_tagEnds_53 (by decide) ?_
          refine lv_iload_n C.1 C.2.1 dX12_tagEnds_55 rfl (lv_at hl 0 rfl) ?_
          refine lv_imul C.1 C.2.1 dX12_tagEnds_56 ?_
          refine m_i (y := nI (8 * t)) (pk_mul 8 t) ?_
          refine lv_ishr C.1 C.2.1 dX12_tagEnds_57 ?_
          refine lv_sipush (v := 255) C.1 C.2.1 dX12_tagEnds_58 (by decide) ?_
          refine lv_iand C.1 C.2.1 dX12_tagEnds_61 ?_
          refine m_iast C w (k := 152) (i := 8 + t) (n := 17) (x := (((v2) >>> ((nI (8 * t)) &&& 31)) &&& (255 : Int32))) (by decide) rfl (by omega) (by decide) dX12_tagEnds_62 (fun H locs w => ?_)
          obtain ⟨M_53, eM_53⟩ : ∃ zz, zz = mm_w M_52 152 (8 + t) (((v2) >>> ((nI (8 * t)) &&& 31)) &&& (255 : Int32)) := ⟨_, rfl⟩
          rw [← eM_53] at w
          refine lv_iinc (v := (nI (t + 1))) (lv' := [(3, .int (nI (t + 1))), (0, .ref (r (117))), (1, .int (v1)), (2, .int (v2))]) C.1 C.2.1 dX12_tagEnds_63 hl (k := 0) rfl (nI_add t 1) (by decide) rfl (fun ls hl => ?_)
          refine lv_goto (tgt := 23) C.1 C.2.1 dX12_tagEnds_66 (by decide) ?_
          have h9 : lv_has ls 4 [(3, .int (nI (t + 1))), (0, .ref (r (117))), (1, .int (v1)), (2, .int (v2))] := lv_sub hl [0, 1, 2, 3] rfl
          have hlZ : lv_has ls 4 [(3, .int (nI (t + 1))), (0, .ref (r (117))), (1, .int (v1)), (2, .int (v2))] := h9
          have wZ := w
          subst eM_50 eM_52 eM_53
          refine ih (t + 1) (by omega) _ _ _ (wZ) ?_
          exact hlZ
      exact loop 4 0 (by omega) _ _ ls w hl
    | succ k ih =>
      intro t ht H locs ls w hl
      obtain ⟨M_54, eM_54⟩ : ∃ zz, zz = f_X12_tagEnds_L2 M t := ⟨_, rfl⟩
      rw [← eM_54] at w
      refine lv_iload_n C.1 C.2.1 dX12_tagEnds_2 rfl (lv_at hl 0 rfl) ?_
      refine lv_bipush (v := 16) C.1 C.2.1 dX12_tagEnds_3 (by decide) ?_
      refine m_icmp_ge (tgt := 21) (a := t) (b := 16) C (by omega) (by omega) dX12_tagEnds_5 (by decide) (fun h_55 => absurd h_55 (by omega)) (fun _ => ?_)
      refine lv_aload_n C.1 C.2.1 dX12_tagEnds_8 rfl (lv_at hl 1 rfl) ?_
      refine m_get C w (k := 117) (j := 37) (v := .ref (r (152))) flX12_186 (by decide) rfl rfl dX12_tagEnds_9 ?_
      refine lv_iload_n C.1 C.2.1 dX12_tagEnds_12 rfl (lv_at hl 0 rfl) ?_
      refine lv_iconst (v := 0) C.1 C.2.1 dX12_tagEnds_13 (by decide) ?_
      refine m_iast C w (k := 152) (i := t) (n := 17) (x := (0 : Int32)) (by decide) rfl (by omega) (by decide) dX12_tagEnds_14 (fun H locs w => ?_)
      obtain ⟨M_56, eM_56⟩ : ∃ zz, zz = mm_w M_54 152 t (0 : Int32) := ⟨_, rfl⟩
      rw [← eM_56] at w
      refine lv_iinc (v := (nI (t + 1))) (lv' := [(3, .int (nI (t + 1))), (0, .ref (r (117))), (1, .int (v1)), (2, .int (v2))]) C.1 C.2.1 dX12_tagEnds_15 hl (k := 0) rfl (nI_add t 1) (by decide) rfl (fun ls hl => ?_)
      refine lv_goto (tgt := 2) C.1 C.2.1 dX12_tagEnds_18 (by decide) ?_
      have h9 : lv_has ls 4 [(3, .int (nI (t + 1))), (0, .ref (r (117))), (1, .int (v1)), (2, .int (v2))] := lv_sub hl [0, 1, 2, 3] rfl
      have hlZ : lv_has ls 4 [(3, .int (nI (t + 1))), (0, .ref (r (117))), (1, .int (v1)), (2, .int (v2))] := h9
      have wZ := w
      subst eM_54 eM_56
      refine ih (t + 1) (by omega) _ _ _ (wZ) ?_
      exact hlZ
  exact loop 16 0 (by omega) _ _ ls w hl

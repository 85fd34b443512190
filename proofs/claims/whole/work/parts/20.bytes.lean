def f_X1_loadBig (k1 : Nat) (p1 : Nat) (M : mm_M) : Int32 :=
  ((((((M.1 k1 p1) &&& (255 : Int32)) <<< ((24 : Int32) &&& 31)) ||| (((M.1 k1 (p1 + 1)) &&& (255 : Int32)) <<< ((16 : Int32) &&& 31))) ||| (((M.1 k1 (p1 + 2)) &&& (255 : Int32)) <<< ((8 : Int32) &&& 31))) ||| ((M.1 k1 (p1 + 3)) &&& (255 : Int32)))
set_option maxHeartbeats 4000000 in
set_option maxRecDepth 100000 in
theorem c_X1_loadBig (l : Launch) (D : va_G) (b0 : Nat) (r : Nat → Nat) (M : mm_M) (k1 : Nat) (p1 : Nat) {n1 : Nat} {w1 : Bool} (hk1 : k1 < 181) (hs1 : mm_sh k1 = .inl (.byte, n1, w1)) (hn1 : n1 < 2 ^ 31) (hp1 : p1 + 3 < n1) : mm_Mi l yX1_loadBig cX1_loadBig 2 .int 0 0 D b0 r [.ref (r (k1)), .int (nI (p1))] M (fun v M' => v = f_X1_loadBig k1 p1 M ∧ M' = M) := by
  refine mm_enter (cc := cX1_loadBig) (nL := 2) (ret := (some .int)) (by decide) (Nat.le_of_ble_eq_true rfl) ?_
  intro p e s m args below meth c C w ls hl
  have hl : lv_has ls 2 [(0, .ref (r (k1))), (1, .int (nI (p1)))] := hl
  refine lv_aload_n C.1 C.2.1 dX1_loadBig_0 rfl (lv_at hl 0 rfl) ?_
  refine lv_iload_n C.1 C.2.1 dX1_loadBig_1 rfl (lv_at hl 1 rfl) ?_
  refine m_bald C w (k := k1) (i := p1) (n := n1) (wr := w1) hk1 hs1 (by omega) hn1 dX1_loadBig_2 ?_
  refine lv_sipush (v := 255) C.1 C.2.1 dX1_loadBig_3 (by decide) ?_
  refine lv_iand C.1 C.2.1 dX1_loadBig_6 ?_
  refine lv_bipush (v := 24) C.1 C.2.1 dX1_loadBig_7 (by decide) ?_
  refine lv_ishl C.1 C.2.1 dX1_loadBig_9 ?_
  refine lv_aload_n C.1 C.2.1 dX1_loadBig_10 rfl (lv_at hl 0 rfl) ?_
  refine lv_iload_n C.1 C.2.1 dX1_loadBig_11 rfl (lv_at hl 1 rfl) ?_
  refine lv_iconst (v := 1) C.1 C.2.1 dX1_loadBig_12 (by decide) ?_
  refine lv_iadd C.1 C.2.1 dX1_loadBig_13 ?_
  refine m_i (y := nI (p1 + 1)) (nI_add p1 1) ?_
  refine m_bald C w (k := k1) (i := p1 + 1) (n := n1) (wr := w1) hk1 hs1 (by omega) hn1 dX1_loadBig_14 ?_
  refine lv_sipush (v := 255) C.1 C.2.1 dX1_loadBig_15 (by decide) ?_
  refine lv_iand C.1 C.2.1 dX1_loadBig_18 ?_
  refine lv_bipush (v := 16) C.1 C.2.1 dX1_loadBig_19 (by decide) ?_
  refine lv_ishl C.1 C.2.1 dX1_loadBig_21 ?_
  refine lv_ior C.1 C.2.1 dX1_loadBig_22 ?_
  refine lv_aload_n C.1 C.2.1 dX1_loadBig_23 rfl (lv_at hl 0 rfl) ?_
  refine lv_iload_n C.1 C.2.1 dX1_loadBig_24 rfl (lv_at hl 1 rfl) ?_
  refine lv_iconst (v := 2) C.1 C.2.1 dX1_loadBig_25 (by decide) ?_
  refine lv_iadd C.1 C.2.1 dX1_loadBig_26 ?_
  refine m_i (y := nI (p1 + 2)) (nI_add p1 2) ?_
  refine m_bald C w (k := k1) (i := p1 + 2) (n := n1) (wr := w1) hk1 hs1 (by omega) hn1 dX1_loadBig_27 ?_
  refine lv_sipush (v := 255) C.1 C.2.1 dX1_loadBig_28 (by decide) ?_
  refine lv_iand C.1 C.2.1 dX1_loadBig_31 ?_
  refine lv_bipush (v := 8) C.1 C.2.1 dX1_loadBig_32 (by decide) ?_
  refine lv_ishl C.1 C.2.1 dX1_loadBig_34 ?_
  refine lv_ior C.1 C.2.1 dX1_loadBig_35 ?_
  refine lv_aload_n C.1 C.2.1 dX1_loadBig_36 rfl (lv_at hl 0 rfl) ?_
  refine lv_iload_n C.1 C.2.1 dX1_loadBig_37 rfl (lv_at hl 1 rfl) ?_
  refine lv_iconst (v := 3) C.1 C.2.1 dX1_loadBig_38 (by decide) ?_
  refine lv_iadd C.1 C.2.1 dX1_loadBig_39 ?_
  refine m_i (y := nI (p1 + 3)) (nI_add p1 3) ?_
  refine m_bald C w (k := k1) (i := p1 + 3) (n := n1) (wr := w1) hk1 hs1 (by omega) hn1 dX1_loadBig_40 ?_
  refine lv_sipush (v := 255) C.1 C.2.1 dX1_loadBig_41 (by decide) ?_
  refine lv_iand C.1 C.2.1 dX1_loadBig_44 ?_
  refine lv_ior C.1 C.2.1 dX1_loadBig_45 ?_
  exact m_iret C w ⟨by exact Eq.symm (rfl), rfl⟩ dX1_loadBig_46

def f_X1_loadLittle (k1 : Nat) (p1 : Nat) (M : mm_M) : Int32 :=
  (((((M.1 k1 p1) &&& (255 : Int32)) ||| (((M.1 k1 (p1 + 1)) &&& (255 : Int32)) <<< ((8 : Int32) &&& 31))) ||| (((M.1 k1 (p1 + 2)) &&& (255 : Int32)) <<< ((16 : Int32) &&& 31))) ||| (((M.1 k1 (p1 + 3)) &&& (255 : Int32)) <<< ((24 : Int32) &&& 31)))
set_option maxHeartbeats 4000000 in
set_option maxRecDepth 100000 in
theorem c_X1_loadLittle (l : Launch) (D : va_G) (b0 : Nat) (r : Nat → Nat) (M : mm_M) (k1 : Nat) (p1 : Nat) {n1 : Nat} {w1 : Bool} (hk1 : k1 < 181) (hs1 : mm_sh k1 = .inl (.byte, n1, w1)) (hn1 : n1 < 2 ^ 31) (hp1 : p1 + 3 < n1) : mm_Mi l yX1_loadLittle cX1_loadLittle 2 .int 0 0 D b0 r [.ref (r (k1)), .int (nI (p1))] M (fun v M' => v = f_X1_loadLittle k1 p1 M ∧ M' = M) := by
  refine mm_enter (cc := cX1_loadLittle) (nL := 2) (ret := (some .int)) (by decide) (Nat.le_of_ble_eq_true rfl) ?_
  intro p e s m args below meth c C w ls hl
  have hl : lv_has ls 2 [(0, .ref (r (k1))), (1, .int (nI (p1)))] := hl
  refine lv_aload_n C.1 C.2.1 dX1_loadLittle_0 rfl (lv_at hl 0 rfl) ?_
  refine lv_iload_n C.1 C.2.1 dX1_loadLittle_1 rfl (lv_at hl 1 rfl) ?_
  refine m_bald C w (k := k1) (i := p1) (n := n1) (wr := w1) hk1 hs1 (by omega) hn1 dX1_loadLittle_2 ?_
  refine lv_sipush (v := 255) C.1 C.2.1 dX1_loadLittle_3 (by decide) ?_
  refine lv_iand C.1 C.2.1 dX1_loadLittle_6 ?_
  refine lv_aload_n C.1 C.2.1 dX1_loadLittle_7 rfl (lv_at hl 0 rfl) ?_
  refine lv_iload_n C.1 C.2.1 dX1_loadLittle_8 rfl (lv_at hl 1 rfl) ?_
  refine lv_iconst (v := 1) C.1 C.2.1 dX1_loadLittle_9 (by decide) ?_
  refine lv_iadd C.1 C.2.1 dX1_loadLittle_10 ?_
  refine m_i (y := nI (p1 + 1)) (nI_add p1 1) ?_
  refine m_bald C w (k := k1) (i := p1 + 1) (n := n1) (wr := w1) hk1 hs1 (by omega) hn1 dX1_loadLittle_11 ?_
  refine lv_sipush (v := 255) C.1 C.2.1 dX1_loadLittle_12 (by decide) ?_
  refine lv_iand C.1 C.2.1 dX1_loadLittle_15 ?_
  refine lv_bipush (v := 8) C.1 C.2.1 dX1_loadLittle_16 (by decide) ?_
  refine lv_ishl C.1 C.2.1 dX1_loadLittle_18 ?_
  refine lv_ior C.1 C.2.1 dX1_loadLittle_19 ?_
  refine lv_aload_n C.1 C.2.1 dX1_loadLittle_20 rfl (lv_at hl 0 rfl) ?_
  refine lv_iload_n C.1 C.2.1 dX1_loadLittle_21 rfl (lv_at hl 1 rfl) ?_
  refine lv_iconst (v := 2) C.1 C.2.1 dX1_loadLittle_22 (by decide) ?_
  refine lv_iadd C.1 C.2.1 dX1_loadLittle_23 ?_
  refine m_i (y := nI (p1 + 2)) (nI_add p1 2) ?_
  refine m_bald C w (k := k1) (i := p1 + 2) (n := n1) (wr := w1) hk1 hs1 (by omega) hn1 dX1_loadLittle_24 ?_
  refine lv_sipush (v := 255) C.1 C.2.1 dX1_loadLittle_25 (by decide) ?_
  refine lv_iand C.1 C.2.1 dX1_loadLittle_28 ?_
  refine lv_bipush (v := 16) C.1 C.2.1 dX1_loadLittle_29 (by decide) ?_
  refine lv_ishl C.1 C.2.1 dX1_loadLittle_31 ?_
  refine lv_ior C.1 C.2.1 dX1_loadLittle_32 ?_
  refine lv_aload_n C.1 C.2.1 dX1_loadLittle_33 rfl (lv_at hl 0 rfl) ?_
  refine lv_iload_n C.1 C.2.1 dX1_loadLittle_34 rfl (lv_at hl 1 rfl) ?_
  refine lv_iconst (v := 3) C.1 C.2.1 dX1_loadLittle_35 (by decide) ?_
  refine lv_iadd C.1 C.2.1 dX1_loadLittle_36 ?_
  refine m_i (y := nI (p1 + 3)) (nI_add p1 3) ?_
  refine m_bald C w (k := k1) (i := p1 + 3) (n := n1) (wr := w1) hk1 hs1 (by omega) hn1 dX1_loadLittle_37 ?_
  refine lv_sipush (v := 255) C.1 C.2.1 dX1_loadLittle_38 (by decide) ?_
  refine lv_iand C.1 C.2.1 dX1_loadLittle_41 ?_
  refine lv_bipush (v := 24) C.1 C.2.1 dX1_loadLittle_42 (by decide) ?_
  refine lv_ishl C.1 C.2.1 dX1_loadLittle_44 ?_
  refine lv_ior C.1 C.2.1 dX1_loadLittle_45 ?_
  exact m_iret C w ⟨by exact Eq.symm (rfl), rfl⟩ dX1_loadLittle_46

def f_X1_storeBig (v1 : Int32) (k1 : Nat) (p1 : Nat) (M : mm_M) : mm_M :=
  let M_1 := mm_w M k1 p1 (mm_b (mm_us (v1) (24 : Int32)))
  let M_2 := mm_w M_1 k1 (p1 + 1) (mm_b (mm_us (v1) (16 : Int32)))
  let M_3 := mm_w M_2 k1 (p1 + 2) (mm_b (mm_us (v1) (8 : Int32)))
  let M_4 := mm_w M_3 k1 (p1 + 3) (mm_b (v1))
  M_4
theorem w_f_X1_storeBig (v1 : Int32) (k1 : Nat) (p1 : Nat) (M : mm_M) : mm_fr [k1] M (f_X1_storeBig v1 k1 p1 M) := by
  unfold f_X1_storeBig
  exact (mm_fr_w (by simp) (mm_fr_w (by simp) (mm_fr_w (by simp) (mm_fr_w (by simp) (mm_fr_refl _ _)))))
set_option maxHeartbeats 4000000 in
set_option maxRecDepth 100000 in
theorem c_X1_storeBig (l : Launch) (D : va_G) (b0 : Nat) (r : Nat → Nat) (M : mm_M) (v1 : Int32) (k1 : Nat) (p1 : Nat) {n1 : Nat} (hk1 : k1 < 173) (hs1 : mm_sh k1 = .inl (.byte, n1, true)) (hn1 : n1 < 2 ^ 31) (hp1 : p1 + 3 < n1) : mm_Mv l yX1_storeBig cX1_storeBig 3 0 0 D b0 r [.int (v1), .ref (r (k1)), .int (nI (p1))] M (fun M' => M' = f_X1_storeBig v1 k1 p1 M) := by
  refine mm_enter (cc := cX1_storeBig) (nL := 3) (ret := none) (by decide) (Nat.le_of_ble_eq_true rfl) ?_
  intro p e s m args below meth c C w ls hl
  have hl : lv_has ls 3 [(0, .int (v1)), (1, .ref (r (k1))), (2, .int (nI (p1)))] := hl
  refine lv_aload_n C.1 C.2.1 dX1_storeBig_0 rfl (lv_at hl 1 rfl) ?_
  refine lv_iload_n C.1 C.2.1 dX1_storeBig_1 rfl (lv_at hl 2 rfl) ?_
  refine lv_iload_n C.1 C.2.1 dX1_storeBig_2 rfl (lv_at hl 0 rfl) ?_
  refine lv_bipush (v := 24) C.1 C.2.1 dX1_storeBig_3 (by decide) ?_
  refine lv_iushr (v := mm_us (v1) (24 : Int32)) C.1 C.2.1 dX1_storeBig_5 rfl ?_
  refine lv_i2b (v := mm_b (mm_us (v1) (24 : Int32))) C.1 C.2.1 dX1_storeBig_6 rfl ?_
  refine m_bast C w (k := k1) (i := p1) (n := n1) (x := (mm_b (mm_us (v1) (24 : Int32)))) hk1 hs1 (by omega) hn1 (mm_bb _) dX1_storeBig_7 (fun H locs w => ?_)
  obtain ⟨M_1, eM_1⟩ : ∃ zz, zz = mm_w M k1 p1 (mm_b (mm_us (v1) (24 : Int32))) := ⟨_, rfl⟩
  rw [← eM_1] at w
  refine lv_aload_n C.1 C.2.1 dX1_storeBig_8 rfl (lv_at hl 1 rfl) ?_
  refine lv_iload_n C.1 C.2.1 dX1_storeBig_9 rfl (lv_at hl 2 rfl) ?_
  refine lv_iconst (v := 1) C.1 C.2.1 dX1_storeBig_10 (by decide) ?_
  refine lv_iadd C.1 C.2.1 dX1_storeBig_11 ?_
  refine m_i (y := nI (p1 + 1)) (nI_add p1 1) ?_
  refine lv_iload_n C.1 C.2.1 dX1_storeBig_12 rfl (lv_at hl 0 rfl) ?_
  refine lv_bipush (v := 16) C.1 C.2.1 dX1_storeBig_13 (by decide) ?_
  refine lv_iushr (v := mm_us (v1) (16 : Int32)) C.1 C.2.1 dX1_storeBig_15 rfl ?_
  refine lv_i2b (v := mm_b (mm_us (v1) (16 : Int32))) C.1 C.2.1 dX1_storeBig_16 rfl ?_
  refine m_bast C w (k := k1) (i := p1 + 1) (n := n1) (x := (mm_b (mm_us (v1) (16 : Int32)))) hk1 hs1 (by omega) hn1 (mm_bb _) dX1_storeBig_17 (fun H locs w => ?_)
  obtain ⟨M_2, eM_2⟩ : ∃ zz, zz = mm_w M_1 k1 (p1 + 1) (mm_b (mm_us (v1) (16 : Int32))) := ⟨_, rfl⟩
  rw [← eM_2] at w
  refine lv_aload_n C.1 C.2.1 dX1_storeBig_18 rfl (lv_at hl 1 rfl) ?_
  refine lv_iload_n C.1 C.2.1 dX1_storeBig_19 rfl (lv_at hl 2 rfl) ?_
  refine lv_iconst (v := 2) C.1 C.2.1 dX1_storeBig_20 (by decide) ?_
  refine lv_iadd C.1 C.2.1 dX1_storeBig_21 ?_
  refine m_i (y := nI (p1 + 2)) (nI_add p1 2) ?_
  refine lv_iload_n C.1 C.2.1 dX1_storeBig_22 rfl (lv_at hl 0 rfl) ?_
  refine lv_bipush (v := 8) C.1 C.2.1 dX1_storeBig_23 (by decide) ?_
  refine lv_iushr (v := mm_us (v1) (8 : Int32)) C.1 C.2.1 dX1_storeBig_25 rfl ?_
  refine lv_i2b (v := mm_b (mm_us (v1) (8 : Int32))) C.1 C.2.1 dX1_storeBig_26 rfl ?_
  refine m_bast C w (k := k1) (i := p1 + 2) (n := n1) (x := (mm_b (mm_us (v1) (8 : Int32)))) hk1 hs1 (by omega) hn1 (mm_bb _) dX1_storeBig_27 (fun H locs w => ?_)
  obtain ⟨M_3, eM_3⟩ : ∃ zz, zz = mm_w M_2 k1 (p1 + 2) (mm_b (mm_us (v1) (8 : Int32))) := ⟨_, rfl⟩
  rw [← eM_3] at w
  refine lv_aload_n C.1 C.2.1 dX1_storeBig_28 rfl (lv_at hl 1 rfl) ?_
  refine lv_iload_n C.1 C.2.1 dX1_storeBig_29 rfl (lv_at hl 2 rfl) ?_
  refine lv_iconst (v := 3) C.1 C.2.1 dX1_storeBig_30 (by decide) ?_
  refine lv_iadd C.1 C.2.1 dX1_storeBig_31 ?_
  refine m_i (y := nI (p1 + 3)) (nI_add p1 3) ?_
  refine lv_iload_n C.1 C.2.1 dX1_storeBig_32 rfl (lv_at hl 0 rfl) ?_
  refine lv_i2b (v := mm_b (v1)) C.1 C.2.1 dX1_storeBig_33 rfl ?_
  refine m_bast C w (k := k1) (i := p1 + 3) (n := n1) (x := (mm_b (v1))) hk1 hs1 (by omega) hn1 (mm_bb _) dX1_storeBig_34 (fun H locs w => ?_)
  obtain ⟨M_4, eM_4⟩ : ∃ zz, zz = mm_w M_3 k1 (p1 + 3) (mm_b (v1)) := ⟨_, rfl⟩
  rw [← eM_4] at w
  exact m_vret C w (by subst eM_1 eM_2 eM_3 eM_4; exact Eq.symm (rfl)) dX1_storeBig_35

def f_X1_storeLittle (v1 : Int32) (k1 : Nat) (p1 : Nat) (M : mm_M) : mm_M :=
  let M_1 := mm_w M k1 p1 (mm_b (v1))
  let M_2 := mm_w M_1 k1 (p1 + 1) (mm_b (mm_us (v1) (8 : Int32)))
  let M_3 := mm_w M_2 k1 (p1 + 2) (mm_b (mm_us (v1) (16 : Int32)))
  let M_4 := mm_w M_3 k1 (p1 + 3) (mm_b (mm_us (v1) (24 : Int32)))
  M_4
theorem w_f_X1_storeLittle (v1 : Int32) (k1 : Nat) (p1 : Nat) (M : mm_M) : mm_fr [k1] M (f_X1_storeLittle v1 k1 p1 M) := by
  unfold f_X1_storeLittle
  exact (mm_fr_w (by simp) (mm_fr_w (by simp) (mm_fr_w (by simp) (mm_fr_w (by simp) (mm_fr_refl _ _)))))
set_option maxHeartbeats 4000000 in
set_option maxRecDepth 100000 in
theorem c_X1_storeLittle (l : Launch) (D : va_G) (b0 : Nat) (r : Nat → Nat) (M : mm_M) (v1 : Int32) (k1 : Nat) (p1 : Nat) {n1 : Nat} (hk1 : k1 < 173) (hs1 : mm_sh k1 = .inl (.byte, n1, true)) (hn1 : n1 < 2 ^ 31) (hp1 : p1 + 3 < n1) : mm_Mv l yX1_storeLittle cX1_storeLittle 3 0 0 D b0 r [.int (v1), .ref (r (k1)), .int (nI (p1))] M (fun M' => M' = f_X1_storeLittle v1 k1 p1 M) := by
  refine mm_enter (cc := cX1_storeLittle) (nL := 3) (ret := none) (by decide) (Nat.le_of_ble_eq_true rfl) ?_
  intro p e s m args below meth c C w ls hl
  have hl : lv_has ls 3 [(0, .int (v1)), (1, .ref (r (k1))), (2, .int (nI (p1)))] := hl
  refine lv_aload_n C.1 C.2.1 dX1_storeLittle_0 rfl (lv_at hl 1 rfl) ?_
  refine lv_iload_n C.1 C.2.1 dX1_storeLittle_1 rfl (lv_at hl 2 rfl) ?_
  refine lv_iload_n C.1 C.2.1 dX1_storeLittle_2 rfl (lv_at hl 0 rfl) ?_
  refine lv_i2b (v := mm_b (v1)) C.1 C.2.1 dX1_storeLittle_3 rfl ?_
  refine m_bast C w (k := k1) (i := p1) (n := n1) (x := (mm_b (v1))) hk1 hs1 (by omega) hn1 (mm_bb _) dX1_storeLittle_4 (fun H locs w => ?_)
  obtain ⟨M_1, eM_1⟩ : ∃ zz, zz = mm_w M k1 p1 (mm_b (v1)) := ⟨_, rfl⟩
  rw [← eM_1] at w
  refine lv_aload_n C.1 C.2.1 dX1_storeLittle_5 rfl (lv_at hl 1 rfl) ?_
  refine lv_iload_n C.1 C.2.1 dX1_storeLittle_6 rfl (lv_at hl 2 rfl) ?_
  refine lv_iconst (v := 1) C.1 C.2.1 dX1_storeLittle_7 (by decide) ?_
  refine lv_iadd C.1 C.2.1 dX1_storeLittle_8 ?_
  refine m_i (y := nI (p1 + 1)) (nI_add p1 1) ?_
  refine lv_iload_n C.1 C.2.1 dX1_storeLittle_9 rfl (lv_at hl 0 rfl) ?_
  refine lv_bipush (v := 8) C.1 C.2.1 dX1_storeLittle_10 (by decide) ?_
  refine lv_iushr (v := mm_us (v1) (8 : Int32)) C.1 C.2.1 dX1_storeLittle_12 rfl ?_
  refine lv_i2b (v := mm_b (mm_us (v1) (8 : Int32))) C.1 C.2.1 dX1_storeLittle_13 rfl ?_
  refine m_bast C w (k := k1) (i := p1 + 1) (n := n1) (x := (mm_b (mm_us (v1) (8 : Int32)))) hk1 hs1 (by omega) hn1 (mm_bb _) dX1_storeLittle_14 (fun H locs w => ?_)
  obtain ⟨M_2, eM_2⟩ : ∃ zz, zz = mm_w M_1 k1 (p1 + 1) (mm_b (mm_us (v1) (8 : Int32))) := ⟨_, rfl⟩
  rw [← eM_2] at w
  refine lv_aload_n C.1 C.2.1 dX1_storeLittle_15 rfl (lv_at hl 1 rfl) ?_
  refine lv_iload_n C.1 C.2.1 dX1_storeLittle_16 rfl (lv_at hl 2 rfl) ?_
  refine lv_iconst (v := 2) C.1 C.2.1 dX1_storeLittle_17 (by decide) ?_
  refine lv_iadd C.1 C.2.1 dX1_storeLittle_18 ?_
  refine m_i (y := nI (p1 + 2)) (nI_add p1 2) ?_
  refine lv_iload_n C.1 C.2.1 dX1_storeLittle_19 rfl (lv_at hl 0 rfl) ?_
  refine lv_bipush (v := 16) C.1 C.2.1 dX1_storeLittle_20 (by decide) ?_
  refine lv_iushr (v := mm_us (v1) (16 : Int32)) C.1 C.2.1 dX1_storeLittle_22 rfl ?_
  refine lv_i2b (v := mm_b (mm_us (v1) (16 : Int32))) C.1 C.2.1 dX1_storeLittle_23 rfl ?_
  refine m_bast C w (k := k1) (i := p1 + 2) (n := n1) (x := (mm_b (mm_us (v1) (16 : Int32)))) hk1 hs1 (by omega) hn1 (mm_bb _) dX1_storeLittle_24 (fun H locs w => ?_)
  obtain ⟨M_3, eM_3⟩ : ∃ zz, zz = mm_w M_2 k1 (p1 + 2) (mm_b (mm_us (v1) (16 : Int32))) := ⟨_, rfl⟩
  rw [← eM_3] at w
  refine lv_aload_n C.1 C.2.1 dX1_storeLittle_25 rfl (lv_at hl 1 rfl) ?_
  refine lv_iload_n C.1 C.2.1 dX1_storeLittle_26 rfl (lv_at hl 2 rfl) ?_
  refine lv_iconst (v := 3) C.1 C.2.1 dX1_storeLittle_27 (by decide) ?_
  refine lv_iadd C.1 C.2.1 dX1_storeLittle_28 ?_
  refine m_i (y := nI (p1 + 3)) (nI_add p1 3) ?_
  refine lv_iload_n C.1 C.2.1 dX1_storeLittle_29 rfl (lv_at hl 0 rfl) ?_
  refine lv_bipush (v := 24) C.1 C.2.1 dX1_storeLittle_30 (by decide) ?_
  refine lv_iushr (v := mm_us (v1) (24 : Int32)) C.1 C.2.1 dX1_storeLittle_32 rfl ?_
  refine lv_i2b (v := mm_b (mm_us (v1) (24 : Int32))) C.1 C.2.1 dX1_storeLittle_33 rfl ?_
  refine m_bast C w (k := k1) (i := p1 + 3) (n := n1) (x := (mm_b (mm_us (v1) (24 : Int32)))) hk1 hs1 (by omega) hn1 (mm_bb _) dX1_storeLittle_34 (fun H locs w => ?_)
  obtain ⟨M_4, eM_4⟩ : ∃ zz, zz = mm_w M_3 k1 (p1 + 3) (mm_b (mm_us (v1) (24 : Int32))) := ⟨_, rfl⟩
  rw [← eM_4] at w
  exact m_vret C w (by subst eM_1 eM_2 eM_3 eM_4; exact Eq.symm (rfl)) dX1_storeLittle_35

def f_X12_reads_B1 (p1 : Nat) (p2 : Nat) (M_4 : mm_M) : Int32 × mm_M :=
  if (M_4.1 161 p1) = (0 : Int32) then ((((nI (p2 - 0)) - (0 : Int32)), M_4)) else ((((nI (p2 - 0)) - (16 : Int32)), M_4))
theorem w_f_X12_reads_B1 (p1 : Nat) (p2 : Nat) (M_4 : mm_M) : mm_fr2 [] M_4 (f_X12_reads_B1 p1 p2 M_4) := by
  unfold f_X12_reads_B1
  exact (mm_fr_ite2 (fun _ => (mm_fr_refl _ _).b) (fun _ => (mm_fr_refl _ _).b))
def f_X12_reads_B2 (p1 : Nat) (p2 : Nat) (M_4 : mm_M) (v_5 : Int32) : Int32 × mm_M :=
  if ¬ (v_5) = (0 : Int32) then (f_X12_reads_B1 p1 p2 M_4) else (((-1 : Int32), M_4))
theorem w_f_X12_reads_B2 (p1 : Nat) (p2 : Nat) (M_4 : mm_M) (v_5 : Int32) : mm_fr2 [] M_4 (f_X12_reads_B2 p1 p2 M_4 v_5) := by
  unfold f_X12_reads_B2
  exact (mm_fr_ite2 (fun _ => ((w_f_X12_reads_B1 _ _ _).on (by simp) (mm_fr_refl _ _))) (fun _ => (mm_fr_refl _ _).b))
def f_X12_reads_B3 (p1 : Nat) (p2 : Nat) (M_15 : mm_M) : Int32 × mm_M :=
  if (M_15.1 161 p1) = (0 : Int32) then ((((nI (p2 - 48)) - (0 : Int32)), M_15)) else ((((nI (p2 - 48)) - (16 : Int32)), M_15))
theorem w_f_X12_reads_B3 (p1 : Nat) (p2 : Nat) (M_15 : mm_M) : mm_fr2 [] M_15 (f_X12_reads_B3 p1 p2 M_15) := by
  unfold f_X12_reads_B3
  exact (mm_fr_ite2 (fun _ => (mm_fr_refl _ _).b) (fun _ => (mm_fr_refl _ _).b))
def f_X12_reads_B4 (p1 : Nat) (p2 : Nat) (M_15 : mm_M) (v_16 : Int32) : Int32 × mm_M :=
  if ¬ (v_16) = (0 : Int32) then (f_X12_reads_B3 p1 p2 M_15) else (((-1 : Int32), M_15))
theorem w_f_X12_reads_B4 (p1 : Nat) (p2 : Nat) (M_15 : mm_M) (v_16 : Int32) : mm_fr2 [] M_15 (f_X12_reads_B4 p1 p2 M_15 v_16) := by
  unfold f_X12_reads_B4
  exact (mm_fr_ite2 (fun _ => ((w_f_X12_reads_B3 _ _ _).on (by simp) (mm_fr_refl _ _))) (fun _ => (mm_fr_refl _ _).b))
def f_X12_reads_B5 (p1 : Nat) (p2 : Nat) (M_9 : mm_M) (v_10 : Int32) : Int32 × mm_M :=
  if ¬ (v_10) = (0 : Int32) then (let M_12 := f_X12_copy 120 0 157 (352 * p1 + 128) 32 M_9
  let M_13 := mm_w M_12 163 p1 (1 : Int32)
  let M_14 := f_X12_agrees p1 224 128 M_13
  let v_16 := (f_X12_opensFrom p1 48 (p2 - 48) 0 M_14).1
  let M_15 := (f_X12_opensFrom p1 48 (p2 - 48) 0 M_14).2
  f_X12_reads_B4 p1 p2 M_15 v_16) else (((-1 : Int32), M_9))
theorem w_f_X12_reads_B5 (p1 : Nat) (p2 : Nat) (M_9 : mm_M) (v_10 : Int32) : mm_fr2 [157, 163, 144, 132, 134, 133, 136, 140, 142, 135, 143, 139, 145, 141, 137, 138, 130, 117, 128, 129, 126, 127, 125, 131, 169, 172, 170, 171, 161, 166, 147, 149, 148, 155, 151, 150, 152, 153, 156, 154, 120] M_9 (f_X12_reads_B5 p1 p2 M_9 v_10) := by
  unfold f_X12_reads_B5
  exact (mm_fr_ite2 (fun _ => ((w_f_X12_reads_B4 _ _ _ _).on (by simp) ((w_f_X12_opensFrom _ _ _ _ _).m.on (by simp) ((w_f_X12_agrees _ _ _ _).on (by simp) (mm_fr_w (by simp) ((w_f_X12_copy _ _ _ _ _ _).on (by simp) (mm_fr_refl _ _))))))) (fun _ => (mm_fr_refl _ _).b))
def f_X12_reads_B6 (p1 : Nat) (p2 : Nat) (M_19 : mm_M) : Int32 × mm_M :=
  if p2 < 48 then (((-1 : Int32), M_19)) else (let v_27 := (f_X12_opensFrom p1 0 48 0 M_19).1
  let M_26 := (f_X12_opensFrom p1 0 48 0 M_19).2
  f_X12_reads_B5 p1 p2 M_26 v_27)
theorem w_f_X12_reads_B6 (p1 : Nat) (p2 : Nat) (M_19 : mm_M) : mm_fr2 [147, 149, 148, 155, 151, 150, 152, 153, 156, 154, 120, 166, 117, 128, 129, 126, 127, 125, 157, 163, 144, 132, 134, 133, 136, 140, 142, 135, 143, 139, 145, 141, 137, 138, 130, 131, 169, 172, 170, 171, 161] M_19 (f_X12_reads_B6 p1 p2 M_19) := by
  unfold f_X12_reads_B6
  exact (mm_fr_ite2 (fun _ => (mm_fr_refl _ _).b) (fun _ => ((w_f_X12_reads_B5 _ _ _ _).on (by simp) ((w_f_X12_opensFrom _ _ _ _ _).m.on (by simp) (mm_fr_refl _ _)))))
def f_X12_reads_B7 (p1 : Nat) (p2 : Nat) (M_19 : mm_M) : Int32 × mm_M :=
  if (M_19.1 164 p1) ≤ (0 : Int32) then (let v_22 := (f_X12_opensFrom p1 0 (p2 - 0) 0 M_19).1
  let M_21 := (f_X12_opensFrom p1 0 (p2 - 0) 0 M_19).2
  f_X12_reads_B2 p1 p2 M_21 v_22) else (f_X12_reads_B6 p1 p2 M_19)
theorem w_f_X12_reads_B7 (p1 : Nat) (p2 : Nat) (M_19 : mm_M) : mm_fr2 [147, 149, 148, 155, 151, 150, 152, 153, 156, 154, 120, 166, 117, 128, 129, 126, 127, 125, 157, 163, 144, 132, 134, 133, 136, 140, 142, 135, 143, 139, 145, 141, 137, 138, 130, 131, 169, 172, 170, 171, 161] M_19 (f_X12_reads_B7 p1 p2 M_19) := by
  unfold f_X12_reads_B7
  exact (mm_fr_ite2 (fun _ => ((w_f_X12_reads_B2 _ _ _ _).on (by simp) ((w_f_X12_opensFrom _ _ _ _ _).m.on (by simp) (mm_fr_refl _ _)))) (fun _ => ((w_f_X12_reads_B6 _ _ _).on (by simp) (mm_fr_refl _ _))))
def f_X12_reads_B8 (p1 : Nat) (p2 : Nat) (M_42 : mm_M) : Int32 × mm_M :=
  if (M_42.1 161 p1) = (0 : Int32) then ((((nI (p2 - 32)) - (0 : Int32)), M_42)) else ((((nI (p2 - 32)) - (16 : Int32)), M_42))
theorem w_f_X12_reads_B8 (p1 : Nat) (p2 : Nat) (M_42 : mm_M) : mm_fr2 [] M_42 (f_X12_reads_B8 p1 p2 M_42) := by
  unfold f_X12_reads_B8
  exact (mm_fr_ite2 (fun _ => (mm_fr_refl _ _).b) (fun _ => (mm_fr_refl _ _).b))
def f_X12_reads_B9 (p1 : Nat) (p2 : Nat) (M_42 : mm_M) (v_43 : Int32) : Int32 × mm_M :=
  if ¬ (v_43) = (0 : Int32) then (f_X12_reads_B8 p1 p2 M_42) else (((-1 : Int32), M_42))
theorem w_f_X12_reads_B9 (p1 : Nat) (p2 : Nat) (M_42 : mm_M) (v_43 : Int32) : mm_fr2 [] M_42 (f_X12_reads_B9 p1 p2 M_42 v_43) := by
  unfold f_X12_reads_B9
  exact (mm_fr_ite2 (fun _ => ((w_f_X12_reads_B8 _ _ _).on (by simp) (mm_fr_refl _ _))) (fun _ => (mm_fr_refl _ _).b))
def f_X12_reads_B10 (p1 : Nat) (p2 : Nat) (M_53 : mm_M) : Int32 × mm_M :=
  if (M_53.1 161 p1) = (0 : Int32) then ((((nI (p2 - 80)) - (0 : Int32)), M_53)) else ((((nI (p2 - 80)) - (16 : Int32)), M_53))
theorem w_f_X12_reads_B10 (p1 : Nat) (p2 : Nat) (M_53 : mm_M) : mm_fr2 [] M_53 (f_X12_reads_B10 p1 p2 M_53) := by
  unfold f_X12_reads_B10
  exact (mm_fr_ite2 (fun _ => (mm_fr_refl _ _).b) (fun _ => (mm_fr_refl _ _).b))
def f_X12_reads_B11 (p1 : Nat) (p2 : Nat) (M_53 : mm_M) (v_54 : Int32) : Int32 × mm_M :=
  if ¬ (v_54) = (0 : Int32) then (f_X12_reads_B10 p1 p2 M_53) else (((-1 : Int32), M_53))
theorem w_f_X12_reads_B11 (p1 : Nat) (p2 : Nat) (M_53 : mm_M) (v_54 : Int32) : mm_fr2 [] M_53 (f_X12_reads_B11 p1 p2 M_53 v_54) := by
  unfold f_X12_reads_B11
  exact (mm_fr_ite2 (fun _ => ((w_f_X12_reads_B10 _ _ _).on (by simp) (mm_fr_refl _ _))) (fun _ => (mm_fr_refl _ _).b))
def f_X12_reads_B12 (p1 : Nat) (p2 : Nat) (M_47 : mm_M) (v_48 : Int32) : Int32 × mm_M :=
  if ¬ (v_48) = (0 : Int32) then (let M_50 := f_X12_copy 120 0 157 (352 * p1 + 128) 32 M_47
  let M_51 := mm_w M_50 163 p1 (1 : Int32)
  let M_52 := f_X12_agrees p1 224 128 M_51
  let v_54 := (f_X12_opensFrom p1 80 (p2 - 80) 0 M_52).1
  let M_53 := (f_X12_opensFrom p1 80 (p2 - 80) 0 M_52).2
  f_X12_reads_B11 p1 p2 M_53 v_54) else (((-1 : Int32), M_47))
theorem w_f_X12_reads_B12 (p1 : Nat) (p2 : Nat) (M_47 : mm_M) (v_48 : Int32) : mm_fr2 [157, 163, 144, 132, 134, 133, 136, 140, 142, 135, 143, 139, 145, 141, 137, 138, 130, 117, 128, 129, 126, 127, 125, 131, 169, 172, 170, 171, 161, 166, 147, 149, 148, 155, 151, 150, 152, 153, 156, 154, 120] M_47 (f_X12_reads_B12 p1 p2 M_47 v_48) := by
  unfold f_X12_reads_B12
  exact (mm_fr_ite2 (fun _ => ((w_f_X12_reads_B11 _ _ _ _).on (by simp) ((w_f_X12_opensFrom _ _ _ _ _).m.on (by simp) ((w_f_X12_agrees _ _ _ _).on (by simp) (mm_fr_w (by simp) ((w_f_X12_copy _ _ _ _ _ _).on (by simp) (mm_fr_refl _ _))))))) (fun _ => (mm_fr_refl _ _).b))
def f_X12_reads_B13 (p1 : Nat) (p2 : Nat) (M_39 : mm_M) : Int32 × mm_M :=
  if p2 < 80 then (((-1 : Int32), M_39)) else (let v_48 := (f_X12_opensFrom p1 32 48 0 M_39).1
  let M_47 := (f_X12_opensFrom p1 32 48 0 M_39).2
  f_X12_reads_B12 p1 p2 M_47 v_48)
theorem w_f_X12_reads_B13 (p1 : Nat) (p2 : Nat) (M_39 : mm_M) : mm_fr2 [147, 149, 148, 155, 151, 150, 152, 153, 156, 154, 120, 166, 117, 128, 129, 126, 127, 125, 157, 163, 144, 132, 134, 133, 136, 140, 142, 135, 143, 139, 145, 141, 137, 138, 130, 131, 169, 172, 170, 171, 161] M_39 (f_X12_reads_B13 p1 p2 M_39) := by
  unfold f_X12_reads_B13
  exact (mm_fr_ite2 (fun _ => (mm_fr_refl _ _).b) (fun _ => ((w_f_X12_reads_B12 _ _ _ _).on (by simp) ((w_f_X12_opensFrom _ _ _ _ _).m.on (by simp) (mm_fr_refl _ _)))))
def f_X12_reads_B14 (p1 : Nat) (p2 : Nat) (M_39 : mm_M) : Int32 × mm_M :=
  if (M_39.1 164 p1) ≤ (0 : Int32) then (let v_43 := (f_X12_opensFrom p1 32 (p2 - 32) 0 M_39).1
  let M_42 := (f_X12_opensFrom p1 32 (p2 - 32) 0 M_39).2
  f_X12_reads_B9 p1 p2 M_42 v_43) else (f_X12_reads_B13 p1 p2 M_39)
theorem w_f_X12_reads_B14 (p1 : Nat) (p2 : Nat) (M_39 : mm_M) : mm_fr2 [147, 149, 148, 155, 151, 150, 152, 153, 156, 154, 120, 166, 117, 128, 129, 126, 127, 125, 157, 163, 144, 132, 134, 133, 136, 140, 142, 135, 143, 139, 145, 141, 137, 138, 130, 131, 169, 172, 170, 171, 161] M_39 (f_X12_reads_B14 p1 p2 M_39) := by
  unfold f_X12_reads_B14
  exact (mm_fr_ite2 (fun _ => ((w_f_X12_reads_B9 _ _ _ _).on (by simp) ((w_f_X12_opensFrom _ _ _ _ _).m.on (by simp) (mm_fr_refl _ _)))) (fun _ => ((w_f_X12_reads_B13 _ _ _).on (by simp) (mm_fr_refl _ _))))
def f_X12_reads_B15 (p1 : Nat) (p2 : Nat) (M_39 : mm_M) : Int32 × mm_M :=
  if ¬ (M_39.1 164 p1) = (1 : Int32) then (f_X12_reads_B14 p1 p2 M_39) else (let M_57 := f_X12_agrees p1 224 96 M_39
  f_X12_reads_B14 p1 p2 M_57)
theorem w_f_X12_reads_B15 (p1 : Nat) (p2 : Nat) (M_39 : mm_M) : mm_fr2 [147, 149, 148, 155, 151, 150, 152, 153, 156, 154, 120, 166, 117, 128, 129, 126, 127, 125, 157, 163, 144, 132, 134, 133, 136, 140, 142, 135, 143, 139, 145, 141, 137, 138, 130, 131, 169, 172, 170, 171, 161] M_39 (f_X12_reads_B15 p1 p2 M_39) := by
  unfold f_X12_reads_B15
  exact (mm_fr_ite2 (fun _ => ((w_f_X12_reads_B14 _ _ _).on (by simp) (mm_fr_refl _ _))) (fun _ => ((w_f_X12_reads_B14 _ _ _).on (by simp) ((w_f_X12_agrees _ _ _ _).on (by simp) (mm_fr_refl _ _)))))
def f_X12_reads (p1 : Nat) (p2 : Nat) (M : mm_M) : Int32 × mm_M :=
  if (2 : Int32) ≤ (M.1 164 p1) then (if ¬ (M.1 164 p1) = (1 : Int32) then (if (M.1 164 p1) ≤ (0 : Int32) then (let v_5 := (f_X12_opensFrom p1 0 (p2 - 0) 0 M).1
  let M_4 := (f_X12_opensFrom p1 0 (p2 - 0) 0 M).2
  f_X12_reads_B2 p1 p2 M_4 v_5) else (if p2 < 48 then (((-1 : Int32), M)) else (let v_10 := (f_X12_opensFrom p1 0 48 0 M).1
  let M_9 := (f_X12_opensFrom p1 0 48 0 M).2
  f_X12_reads_B5 p1 p2 M_9 v_10))) else (let M_19 := f_X12_agrees p1 224 96 M
  f_X12_reads_B7 p1 p2 M_19)) else (if 32 ≤ p2 then (let M_37 := f_X12_copy 119 0 157 (352 * p1 + 96) 32 M
  let M_38 := mm_w M_37 162 p1 (1 : Int32)
  let M_39 := f_X12_mixHash p1 119 0 32 M_38
  f_X12_reads_B15 p1 p2 M_39) else (((-1 : Int32), M)))
theorem w_f_X12_reads (p1 : Nat) (p2 : Nat) (M : mm_M) : mm_fr2 [147, 149, 148, 155, 151, 150, 152, 153, 156, 154, 120, 166, 117, 128, 129, 126, 127, 125, 157, 163, 144, 132, 134, 133, 136, 140, 142, 135, 143, 139, 145, 141, 137, 138, 130, 131, 169, 172, 170, 171, 161, 162] M (f_X12_reads p1 p2 M) := by
  unfold f_X12_reads
  exact (mm_fr_ite2 (fun _ => (mm_fr_ite2 (fun _ => (mm_fr_ite2 (fun _ => ((w_f_X12_reads_B2 _ _ _ _).on (by simp) ((w_f_X12_opensFrom _ _ _ _ _).m.on (by simp) (mm_fr_refl _ _)))) (fun _ => (mm_fr_ite2 (fun _ => (mm_fr_refl _ _).b) (fun _ => ((w_f_X12_reads_B5 _ _ _ _).on (by simp) ((w_f_X12_opensFrom _ _ _ _ _).m.on (by simp) (mm_fr_refl _ _)))))))) (fun _ => ((w_f_X12_reads_B7 _ _ _).on (by simp) ((w_f_X12_agrees _ _ _ _).on (by simp) (mm_fr_refl _ _)))))) (fun _ => (mm_fr_ite2 (fun _ => ((w_f_X12_reads_B15 _ _ _).on (by simp) ((w_f_X12_mixHash _ _ _ _ _).on (by simp) (mm_fr_w (by simp) ((w_f_X12_copy _ _ _ _ _ _).on (by simp) (mm_fr_refl _ _)))))) (fun _ => (mm_fr_refl _ _).b))))
set_option maxHeartbeats 4000000 in
set_option maxRecDepth 100000 in
theorem c_X12_reads (l : Launch) (D : va_G) (b0 : Nat) (r : Nat → Nat) (M : mm_M) (p1 : Nat) (p2 : Nat) (hs : p1 < 4) (hp2 : p2 ≤ 1000) : mm_Mi l yX12_reads cX12_reads 5 .int 7 161 D b0 r [.ref (r (117)), .int (nI (p1)), .int (nI (p2))] M (fun v M' => (v, M') = f_X12_reads p1 p2 M) := by
  refine mm_enter (cc := cX12_reads) (nL := 5) (ret := (some .int)) (by decide) (Nat.le_of_ble_eq_true rfl) ?_
  intro p e s m args below meth c C w ls hl
  have hl : lv_has ls 5 [(0, .ref (r (117))), (1, .int (nI (p1))), (2, .int (nI (p2)))] := hl
  refine lv_sipush (v := 352) C.1 C.2.1 dX12_reads_0 (by decide) ?_
  refine lv_iload_n C.1 C.2.1 dX12_reads_3 rfl (lv_at hl 1 rfl) ?_
  refine lv_imul C.1 C.2.1 dX12_reads_4 ?_
  refine m_i (y := nI (352 * p1)) (pk_mul 352 p1) ?_
  refine lv_istore_n (lv' := [(3, .int (nI (352 * p1))), (0, .ref (r (117))), (1, .int (nI (p1))), (2, .int (nI (p2)))]) C.1 C.2.1 dX12_reads_5 rfl hl (by decide) rfl (fun ls hl => ?_)
  refine lv_iconst (v := 0) C.1 C.2.1 dX12_reads_6 (by decide) ?_
  refine lv_istore (lv' := [(4, .int 0), (3, .int (nI (352 * p1))), (0, .ref (r (117))), (1, .int (nI (p1))), (2, .int (nI (p2)))]) C.1 C.2.1 dX12_reads_7 hl (by decide) rfl (fun ls hl => ?_)
  refine lv_aload_n C.1 C.2.1 dX12_reads_9 rfl (lv_at hl 2 rfl) ?_
  refine m_get C w (k := 117) (j := 49) (v := .ref (r (164))) flX12_223 (by decide) rfl rfl dX12_reads_10 ?_
  refine lv_iload_n C.1 C.2.1 dX12_reads_13 rfl (lv_at hl 3 rfl) ?_
  refine m_iald C w (k := 164) (i := p1) (n := 4) (wr := true) (by decide) rfl (by omega) (by decide) dX12_reads_14 ?_
  refine lv_iconst (v := 2) C.1 C.2.1 dX12_reads_15 (by decide) ?_
  refine lv_icmp_ge (tgt := 68) C.1 C.2.1 dX12_reads_16 (by decide) (fun h_1 => ?_) (fun h_1 => ?_)
  · refine lv_aload_n C.1 C.2.1 dX12_reads_68 rfl (lv_at hl 2 rfl) ?_
    refine m_get C w (k := 117) (j := 49) (v := .ref (r (164))) flX12_223 (by decide) rfl rfl dX12_reads_69 ?_
    refine lv_iload_n C.1 C.2.1 dX12_reads_72 rfl (lv_at hl 3 rfl) ?_
    refine m_iald C w (k := 164) (i := p1) (n := 4) (wr := true) (by decide) rfl (by omega) (by decide) dX12_reads_73 ?_
    refine lv_iconst (v := 1) C.1 C.2.1 dX12_reads_74 (by decide) ?_
    refine lv_icmp_ne (tgt := 88) C.1 C.2.1 dX12_reads_75 (by decide) (fun h_2 => ?_) (fun h_2 => ?_)
    · refine lv_aload_n C.1 C.2.1 dX12_reads_88 rfl (lv_at hl 2 rfl) ?_
      refine m_get C w (k := 117) (j := 49) (v := .ref (r (164))) flX12_223 (by decide) rfl rfl dX12_reads_89 ?_
      refine lv_iload_n C.1 C.2.1 dX12_reads_92 rfl (lv_at hl 3 rfl) ?_
      refine m_iald C w (k := 164) (i := p1) (n := 4) (wr := true) (by decide) rfl (by omega) (by decide) dX12_reads_93 ?_
      refine lv_if_le (tgt := 161) C.1 C.2.1 dX12_reads_94 (by decide) (fun h_3 => ?_) (fun h_3 => ?_)
      · refine lv_aload_n C.1 C.2.1 dX12_reads_161 rfl (lv_at hl 2 rfl) ?_
        refine lv_iload_n C.1 C.2.1 dX12_reads_162 rfl (lv_at hl 3 rfl) ?_
        refine lv_iload C.1 C.2.1 dX12_reads_163 (lv_at hl 0 rfl) ?_
        refine lv_iload_n C.1 C.2.1 dX12_reads_165 rfl (lv_at hl 4 rfl) ?_
        refine lv_iload C.1 C.2.1 dX12_reads_166 (lv_at hl 0 rfl) ?_
        refine lv_isub C.1 C.2.1 dX12_reads_168 ?_
        refine m_i (y := nI (p2 - 0)) (pk_sub (a := p2) (b := 0) (by omega)) ?_
        refine lv_iconst (v := 0) C.1 C.2.1 dX12_reads_169 (by decide) ?_
        refine m_cvi C w hl cvX12_441 (k := 117) (by decide) rfl (q := (RX12, TX12, 58)) rfl rfl (As := [.int (nI (p1)), .int 0, .int (nI (p2 - 0)), .int 0]) (rest := []) (c_X12_opensFrom l D b0 r M p1 0 (p2 - 0) 0 (by omega) (by omega) (by omega)) rfl rfl (Nat.le_of_ble_eq_true rfl) ⟨Nat.le_of_ble_eq_true rfl, Nat.le_of_ble_eq_true rfl⟩ ⟨Nat.zero_le _, Nat.zero_le _⟩ dX12_reads_170 (fun v_5 M_4 H locs e9 w => ?_)
        obtain ⟨ev_5, eM_4⟩ : v_5 = (f_X12_opensFrom p1 0 (p2 - 0) 0 M).1 ∧ M_4 = (f_X12_opensFrom p1 0 (p2 - 0) 0 M).2 := ⟨congrArg Prod.fst e9, congrArg Prod.snd e9⟩
        clear e9
        refine lv_if_ne (tgt := 178) C.1 C.2.1 dX12_reads_173 (by decide) (fun h_6 => ?_) (fun h_6 => ?_)
        · refine lv_iload_n C.1 C.2.1 dX12_reads_178 rfl (lv_at hl 4 rfl) ?_
          refine lv_iload C.1 C.2.1 dX12_reads_179 (lv_at hl 0 rfl) ?_
          refine lv_isub C.1 C.2.1 dX12_reads_181 ?_
          refine m_i (y := nI (p2 - 0)) (pk_sub (a := p2) (b := 0) (by omega)) ?_
          refine lv_aload_n C.1 C.2.1 dX12_reads_182 rfl (lv_at hl 2 rfl) ?_
          refine m_get C w (k := 117) (j := 46) (v := .ref (r (161))) flX12_214 (by decide) rfl rfl dX12_reads_183 ?_
          refine lv_iload_n C.1 C.2.1 dX12_reads_186 rfl (lv_at hl 3 rfl) ?_
          refine m_zald C w (k := 161) (i := p1) (n := 4) (wr := true) (by decide) rfl (by omega) (by decide) dX12_reads_187 ?_
          refine lv_if_eq (tgt := 196) C.1 C.2.1 dX12_reads_188 (by decide) (fun h_7 => ?_) (fun h_7 => ?_)
          · refine lv_iconst (v := 0) C.1 C.2.1 dX12_reads_196 (by decide) ?_
            refine lv_isub C.1 C.2.1 dX12_reads_197 ?_
            exact m_iret C w (by subst ev_5 eM_4; exact Eq.symm (((if_pos h_1).trans ((if_pos h_2).trans ((if_pos h_3).trans ((if_pos h_6).trans ((if_pos h_7).trans rfl))))))) dX12_reads_198
          · refine lv_bipush (v := 16) C.1 C.2.1 dX12_reads_191 (by decide) ?_
            refine lv_goto (tgt := 197) C.1 C.2.1 dX12_reads_193 (by decide) ?_
            refine lv_isub C.1 C.2.1 dX12_reads_197 ?_
            exact m_iret C w (by subst ev_5 eM_4; exact Eq.symm (((if_pos h_1).trans ((if_pos h_2).trans ((if_pos h_3).trans ((if_pos h_6).trans ((if_neg h_7).trans rfl))))))) dX12_reads_198
        · refine lv_iconst (v := (-1)) C.1 C.2.1 dX12_reads_176 (by decide) ?_
          exact m_iret C w (by subst ev_5 eM_4; exact Eq.symm (((if_pos h_1).trans ((if_pos h_2).trans ((if_pos h_3).trans ((if_neg (fun q => q h_6)).trans rfl)))))) dX12_reads_177
      · refine lv_iload_n C.1 C.2.1 dX12_reads_97 rfl (lv_at hl 4 rfl) ?_
        refine lv_iload C.1 C.2.1 dX12_reads_98 (lv_at hl 0 rfl) ?_
        refine lv_bipush (v := 48) C.1 C.2.1 dX12_reads_100 (by decide) ?_
        refine lv_iadd C.1 C.2.1 dX12_reads_102 ?_
        refine m_i (y := nI (48)) (nI_add 0 48) ?_
        refine m_icmp_lt (tgt := 119) (a := p2) (b := 48) C (by omega) (by omega) dX12_reads_103 (by decide) (fun h_8 => ?_) (fun h_8 => ?_)
        · refine lv_iconst (v := (-1)) C.1 C.2.1 dX12_reads_119 (by decide) ?_
          exact m_iret C w (by exact Eq.symm (((if_pos h_1).trans ((if_pos h_2).trans ((if_neg h_3).trans ((if_pos h_8).trans rfl)))))) dX12_reads_120
        · refine lv_aload_n C.1 C.2.1 dX12_reads_106 rfl (lv_at hl 2 rfl) ?_
          refine lv_iload_n C.1 C.2.1 dX12_reads_107 rfl (lv_at hl 3 rfl) ?_
          refine lv_iload C.1 C.2.1 dX12_reads_108 (lv_at hl 0 rfl) ?_
          refine lv_bipush (v := 48) C.1 C.2.1 dX12_reads_110 (by decide) ?_
          refine lv_iconst (v := 0) C.1 C.2.1 dX12_reads_112 (by decide) ?_
          refine m_cvi C w hl cvX12_441 (k := 117) (by decide) rfl (q := (RX12, TX12, 58)) rfl rfl (As := [.int (nI (p1)), .int 0, .int 48, .int 0]) (rest := []) (c_X12_opensFrom l D b0 r M p1 0 48 0 (by omega) (by omega) (by omega)) rfl rfl (Nat.le_of_ble_eq_true rfl) ⟨Nat.le_of_ble_eq_true rfl, Nat.le_of_ble_eq_true rfl⟩ ⟨Nat.zero_le _, Nat.zero_le _⟩ dX12_reads_113 (fun v_10 M_9 H locs e9 w => ?_)
          obtain ⟨ev_10, eM_9⟩ : v_10 = (f_X12_opensFrom p1 0 48 0 M).1 ∧ M_9 = (f_X12_opensFrom p1 0 48 0 M).2 := ⟨congrArg Prod.fst e9, congrArg Prod.snd e9⟩
          clear e9
          refine lv_if_ne (tgt := 121) C.1 C.2.1 dX12_reads_116 (by decide) (fun h_11 => ?_) (fun h_11 => ?_)
          · refine lv_aload_n C.1 C.2.1 dX12_reads_121 rfl (lv_at hl 2 rfl) ?_
            refine m_get C w (k := 117) (j := 2) (v := .ref (r (120))) flX12_16 (by decide) rfl rfl dX12_reads_122 ?_
            refine lv_iconst (v := 0) C.1 C.2.1 dX12_reads_125 (by decide) ?_
            refine lv_aload_n C.1 C.2.1 dX12_reads_126 rfl (lv_at hl 2 rfl) ?_
            refine m_get C w (k := 117) (j := 42) (v := .ref (r (157))) flX12_201 (by decide) rfl rfl dX12_reads_127 ?_
            refine lv_iload_n C.1 C.2.1 dX12_reads_130 rfl (lv_at hl 1 rfl) ?_
            refine lv_sipush (v := 128) C.1 C.2.1 dX12_reads_131 (by decide) ?_
            refine lv_iadd C.1 C.2.1 dX12_reads_134 ?_
            refine m_i (y := nI (352 * p1 + 128)) (nI_add (352 * p1) 128) ?_
            refine lv_bipush (v := 32) C.1 C.2.1 dX12_reads_135 (by decide) ?_
            refine m_csv C w hl csX12_265 (As := [.ref (r (120)), .int 0, .ref (r (157)), .int (nI (352 * p1 + 128)), .int 32]) (rest := []) (c_X12_copy l D b0 r M_9 120 0 157 (352 * p1 + 128) 32 (by decide) rfl (by decide) (by omega) (by decide) rfl (by decide) (by omega) (by omega) (by omega)) rfl rfl (Nat.le_of_ble_eq_true rfl) ⟨Nat.le_of_ble_eq_true rfl, Nat.le_of_ble_eq_true rfl⟩ ⟨Nat.zero_le _, Nat.zero_le _⟩ dX12_reads_137 (fun M_12 H locs eM_12 w => ?_)
            refine lv_aload_n C.1 C.2.1 dX12_reads_140 rfl (lv_at hl 2 rfl) ?_
            refine m_get C w (k := 117) (j := 48) (v := .ref (r (163))) flX12_220 (by decide) rfl rfl dX12_reads_141 ?_
            refine lv_iload_n C.1 C.2.1 dX12_reads_144 rfl (lv_at hl 3 rfl) ?_
            refine lv_iconst (v := 1) C.1 C.2.1 dX12_reads_145 (by decide) ?_
            refine m_zast C w (k := 163) (i := p1) (n := 4) (x := (1 : Int32)) (by decide) rfl (by omega) (by decide) (by decide) dX12_reads_146 (fun H locs w => ?_)
            obtain ⟨M_13, eM_13⟩ : ∃ zz, zz = mm_w M_12 163 p1 (1 : Int32) := ⟨_, rfl⟩
            rw [← eM_13] at w
            refine lv_aload_n C.1 C.2.1 dX12_reads_147 rfl (lv_at hl 2 rfl) ?_
            refine lv_iload_n C.1 C.2.1 dX12_reads_148 rfl (lv_at hl 3 rfl) ?_
            refine lv_sipush (v := 224) C.1 C.2.1 dX12_reads_149 (by decide) ?_
            refine lv_sipush (v := 128) C.1 C.2.1 dX12_reads_152 (by decide) ?_
            refine m_cvv C w hl cvX12_427 (k := 117) (by decide) rfl (q := (RX12, TX12, 58)) rfl rfl (As := [.int (nI (p1)), .int 224, .int 128]) (rest := []) (c_X12_agrees l D b0 r M_13 p1 224 128 (by omega) (by omega) (by omega)) rfl rfl (Nat.le_of_ble_eq_true rfl) ⟨Nat.le_of_ble_eq_true rfl, Nat.le_of_ble_eq_true rfl⟩ ⟨Nat.zero_le _, Nat.zero_le _⟩ dX12_reads_155 (fun M_14 H locs eM_14 w => ?_)
            refine lv_iinc (v := (48 : Int32)) (lv' := [(4, .int 48), (3, .int (nI (352 * p1))), (0, .ref (r (117))), (1, .int (nI (p1))), (2, .int (nI (p2)))]) C.1 C.2.1 dX12_reads_158 hl (k := 0) rfl (nI_add 0 48) (by decide) rfl (fun ls hl => ?_)
            refine lv_aload_n C.1 C.2.1 dX12_reads_161 rfl (lv_at hl 2 rfl) ?_
            refine lv_iload_n C.1 C.2.1 dX12_reads_162 rfl (lv_at hl 3 rfl) ?_
            refine lv_iload C.1 C.2.1 dX12_reads_163 (lv_at hl 0 rfl) ?_
            refine lv_iload_n C.1 C.2.1 dX12_reads_165 rfl (lv_at hl 4 rfl) ?_
            refine lv_iload C.1 C.2.1 dX12_reads_166 (lv_at hl 0 rfl) ?_
            refine lv_isub C.1 C.2.1 dX12_reads_168 ?_
            refine m_i (y := nI (p2 - 48)) (pk_sub (a := p2) (b := 48) (by omega)) ?_
            refine lv_iconst (v := 0) C.1 C.2.1 dX12_reads_169 (by decide) ?_
            refine m_cvi C w hl cvX12_441 (k := 117) (by decide) rfl (q := (RX12, TX12, 58)) rfl rfl (As := [.int (nI (p1)), .int 48, .int (nI (p2 - 48)), .int 0]) (rest := []) (c_X12_opensFrom l D b0 r M_14 p1 48 (p2 - 48) 0 (by omega) (by omega) (by omega)) rfl rfl (Nat.le_of_ble_eq_true rfl) ⟨Nat.le_of_ble_eq_true rfl, Nat.le_of_ble_eq_true rfl⟩ ⟨Nat.zero_le _, Nat.zero_le _⟩ dX12_reads_170 (fun v_16 M_15 H locs e9 w => ?_)
            obtain ⟨ev_16, eM_15⟩ : v_16 = (f_X12_opensFrom p1 48 (p2 - 48) 0 M_14).1 ∧ M_15 = (f_X12_opensFrom p1 48 (p2 - 48) 0 M_14).2 := ⟨congrArg Prod.fst e9, congrArg Prod.snd e9⟩
            clear e9
            refine lv_if_ne (tgt := 178) C.1 C.2.1 dX12_reads_173 (by decide) (fun h_17 => ?_) (fun h_17 => ?_)
            · refine lv_iload_n C.1 C.2.1 dX12_reads_178 rfl (lv_at hl 4 rfl) ?_
              refine lv_iload C.1 C.2.1 dX12_reads_179 (lv_at hl 0 rfl) ?_
              refine lv_isub C.1 C.2.1 dX12_reads_181 ?_
              refine m_i (y := nI (p2 - 48)) (pk_sub (a := p2) (b := 48) (by omega)) ?_
              refine lv_aload_n C.1 C.2.1 dX12_reads_182 rfl (lv_at hl 2 rfl) ?_
              refine m_get C w (k := 117) (j := 46) (v := .ref (r (161))) flX12_214 (by decide) rfl rfl dX12_reads_183 ?_
              refine lv_iload_n C.1 C.2.1 dX12_reads_186 rfl (lv_at hl 3 rfl) ?_
              refine m_zald C w (k := 161) (i := p1) (n := 4) (wr := true) (by decide) rfl (by omega) (by decide) dX12_reads_187 ?_
              refine lv_if_eq (tgt := 196) C.1 C.2.1 dX12_reads_188 (by decide) (fun h_18 => ?_) (fun h_18 => ?_)
              · refine lv_iconst (v := 0) C.1 C.2.1 dX12_reads_196 (by decide) ?_
                refine lv_isub C.1 C.2.1 dX12_reads_197 ?_
                exact m_iret C w (by subst ev_10 eM_9 eM_12 eM_13 eM_14 ev_16 eM_15; exact Eq.symm (((if_pos h_1).trans ((if_pos h_2).trans ((if_neg h_3).trans ((if_neg (Nat.not_lt.mpr h_8)).trans ((if_pos h_11).trans ((if_pos h_17).trans ((if_pos h_18).trans rfl))))))))) dX12_reads_198
              · refine lv_bipush (v := 16) C.1 C.2.1 dX12_reads_191 (by decide) ?_
                refine lv_goto (tgt := 197) C.1 C.2.1 dX12_reads_193 (by decide) ?_
                refine lv_isub C.1 C.2.1 dX12_reads_197 ?_
                exact m_iret C w (by subst ev_10 eM_9 eM_12 eM_13 eM_14 ev_16 eM_15; exact Eq.symm (((if_pos h_1).trans ((if_pos h_2).trans ((if_neg h_3).trans ((if_neg (Nat.not_lt.mpr h_8)).trans ((if_pos h_11).trans ((if_pos h_17).trans ((if_neg h_18).trans rfl))))))))) dX12_reads_198
            · refine lv_iconst (v := (-1)) C.1 C.2.1 dX12_reads_176 (by decide) ?_
              exact m_iret C w (by subst ev_10 eM_9 eM_12 eM_13 eM_14 ev_16 eM_15; exact Eq.symm (((if_pos h_1).trans ((if_pos h_2).trans ((if_neg h_3).trans ((if_neg (Nat.not_lt.mpr h_8)).trans ((if_pos h_11).trans ((if_neg (fun q => q h_17)).trans rfl)))))))) dX12_reads_177
          · refine lv_iconst (v := (-1)) C.1 C.2.1 dX12_reads_119 (by decide) ?_
            exact m_iret C w (by subst ev_10 eM_9; exact Eq.symm (((if_pos h_1).trans ((if_pos h_2).trans ((if_neg h_3).trans ((if_neg (Nat.not_lt.mpr h_8)).trans ((if_neg (fun q => q h_11)).trans rfl))))))) dX12_reads_120
    · refine lv_aload_n C.1 C.2.1 dX12_reads_78 rfl (lv_at hl 2 rfl) ?_
      refine lv_iload_n C.1 C.2.1 dX12_reads_79 rfl (lv_at hl 3 rfl) ?_
      refine lv_sipush (v := 224) C.1 C.2.1 dX12_reads_80 (by decide) ?_
      refine lv_bipush (v := 96) C.1 C.2.1 dX12_reads_83 (by decide) ?_
      refine m_cvv C w hl cvX12_427 (k := 117) (by decide) rfl (q := (RX12, TX12, 58)) rfl rfl (As := [.int (nI (p1)), .int 224, .int 96]) (rest := []) (c_X12_agrees l D b0 r M p1 224 96 (by omega) (by omega) (by omega)) rfl rfl (Nat.le_of_ble_eq_true rfl) ⟨Nat.le_of_ble_eq_true rfl, Nat.le_of_ble_eq_true rfl⟩ ⟨Nat.zero_le _, Nat.zero_le _⟩ dX12_reads_85 (fun M_19 H locs eM_19 w => ?_)
      refine lv_aload_n C.1 C.2.1 dX12_reads_88 rfl (lv_at hl 2 rfl) ?_
      refine m_get C w (k := 117) (j := 49) (v := .ref (r (164))) flX12_223 (by decide) rfl rfl dX12_reads_89 ?_
      refine lv_iload_n C.1 C.2.1 dX12_reads_92 rfl (lv_at hl 3 rfl) ?_
      refine m_iald C w (k := 164) (i := p1) (n := 4) (wr := true) (by decide) rfl (by omega) (by decide) dX12_reads_93 ?_
      refine lv_if_le (tgt := 161) C.1 C.2.1 dX12_reads_94 (by decide) (fun h_20 => ?_) (fun h_20 => ?_)
      · refine lv_aload_n C.1 C.2.1 dX12_reads_161 rfl (lv_at hl 2 rfl) ?_
        refine lv_iload_n C.1 C.2.1 dX12_reads_162 rfl (lv_at hl 3 rfl) ?_
        refine lv_iload C.1 C.2.1 dX12_reads_163 (lv_at hl 0 rfl) ?_
        refine lv_iload_n C.1 C.2.1 dX12_reads_165 rfl (lv_at hl 4 rfl) ?_
        refine lv_iload C.1 C.2.1 dX12_reads_166 (lv_at hl 0 rfl) ?_
        refine lv_isub C.1 C.2.1 dX12_reads_168 ?_
        refine m_i (y := nI (p2 - 0)) (pk_sub (a := p2) (b := 0) (by omega)) ?_
        refine lv_iconst (v := 0) C.1 C.2.1 dX12_reads_169 (by decide) ?_
        refine m_cvi C w hl cvX12_441 (k := 117) (by decide) rfl (q := (RX12, TX12, 58)) rfl rfl (As := [.int (nI (p1)), .int 0, .int (nI (p2 - 0)), .int 0]) (rest := []) (c_X12_opensFrom l D b0 r M_19 p1 0 (p2 - 0) 0 (by omega) (by omega) (by omega)) rfl rfl (Nat.le_of_ble_eq_true rfl) ⟨Nat.le_of_ble_eq_true rfl, Nat.le_of_ble_eq_true rfl⟩ ⟨Nat.zero_le _, Nat.zero_le _⟩ dX12_reads_170 (fun v_22 M_21 H locs e9 w => ?_)
        obtain ⟨ev_22, eM_21⟩ : v_22 = (f_X12_opensFrom p1 0 (p2 - 0) 0 M_19).1 ∧ M_21 = (f_X12_opensFrom p1 0 (p2 - 0) 0 M_19).2 := ⟨congrArg Prod.fst e9, congrArg Prod.snd e9⟩
        clear e9
        refine lv_if_ne (tgt := 178) C.1 C.2.1 dX12_reads_173 (by decide) (fun h_23 => ?_) (fun h_23 => ?_)
        · refine lv_iload_n C.1 C.2.1 dX12_reads_178 rfl (lv_at hl 4 rfl) ?_
          refine lv_iload C.1 C.2.1 dX12_reads_179 (lv_at hl 0 rfl) ?_
          refine lv_isub C.1 C.2.1 dX12_reads_181 ?_
          refine m_i (y := nI (p2 - 0)) (pk_sub (a := p2) (b := 0) (by omega)) ?_
          refine lv_aload_n C.1 C.2.1 dX12_reads_182 rfl (lv_at hl 2 rfl) ?_
          refine m_get C w (k := 117) (j := 46) (v := .ref (r (161))) flX12_214 (by decide) rfl rfl dX12_reads_183 ?_
          refine lv_iload_n C.1 C.2.1 dX12_reads_186 rfl (lv_at hl 3 rfl) ?_
          refine m_zald C w (k := 161) (i := p1) (n := 4) (wr := true) (by decide) rfl (by omega) (by decide) dX12_reads_187 ?_
          refine lv_if_eq (tgt := 196) C.1 C.2.1 dX12_reads_188 (by decide) (fun h_24 => ?_) (fun h_24 => ?_)
          · refine lv_iconst (v := 0) C.1 C.2.1 dX12_reads_196 (by decide) ?_
            refine lv_isub C.1 C.2.1 dX12_reads_197 ?_
            exact m_iret C w (by subst eM_19 ev_22 eM_21; exact Eq.symm (((if_pos h_1).trans ((if_neg (fun q => q h_2)).trans ((if_pos h_20).trans ((if_pos h_23).trans ((if_pos h_24).trans rfl))))))) dX12_reads_198
          · refine lv_bipush (v := 16) C.1 C.2.1 dX12_reads_191 (by decide) ?_
            refine lv_goto (tgt := 197) C.1 C.2.1 dX12_reads_193 (by decide) ?_
            refine lv_isub C.1 C.2.1 dX12_reads_197 ?_
            exact m_iret C w (by subst eM_19 ev_22 eM_21; exact Eq.symm (((if_pos h_1).trans ((if_neg (fun q => q h_2)).trans ((if_pos h_20).trans ((if_pos h_23).trans ((if_neg h_24).trans rfl))))))) dX12_reads_198
        · refine lv_iconst (v := (-1)) C.1 C.2.1 dX12_reads_176 (by decide) ?_
          exact m_iret C w (by subst eM_19 ev_22 eM_21; exact Eq.symm (((if_pos h_1).trans ((if_neg (fun q => q h_2)).trans ((if_pos h_20).trans ((if_neg (fun q => q h_23)).trans rfl)))))) dX12_reads_177
      · refine lv_iload_n C.1 C.2.1 dX12_reads_97 rfl (lv_at hl 4 rfl) ?_
        refine lv_iload C.1 C.2.1 dX12_reads_98 (lv_at hl 0 rfl) ?_
        refine lv_bipush (v := 48) C.1 C.2.1 dX12_reads_100 (by decide) ?_
        refine lv_iadd C.1 C.2.1 dX12_reads_102 ?_
        refine m_i (y := nI (48)) (nI_add 0 48) ?_
        refine m_icmp_lt (tgt := 119) (a := p2) (b := 48) C (by omega) (by omega) dX12_reads_103 (by decide) (fun h_25 => ?_) (fun h_25 => ?_)
        · refine lv_iconst (v := (-1)) C.1 C.2.1 dX12_reads_119 (by decide) ?_
          exact m_iret C w (by subst eM_19; exact Eq.symm (((if_pos h_1).trans ((if_neg (fun q => q h_2)).trans ((if_neg h_20).trans ((if_pos h_25).trans rfl)))))) dX12_reads_120
        · refine lv_aload_n C.1 C.2.1 dX12_reads_106 rfl (lv_at hl 2 rfl) ?_
          refine lv_iload_n C.1 C.2.1 dX12_reads_107 rfl (lv_at hl 3 rfl) ?_
          refine lv_iload C.1 C.2.1 dX12_reads_108 (lv_at hl 0 rfl) ?_
          refine lv_bipush (v := 48) C.1 C.2.1 dX12_reads_110 (by decide) ?_
          refine lv_iconst (v := 0) C.1 C.2.1 dX12_reads_112 (by decide) ?_
          refine m_cvi C w hl cvX12_441 (k := 117) (by decide) rfl (q := (RX12, TX12, 58)) rfl rfl (As := [.int (nI (p1)), .int 0, .int 48, .int 0]) (rest := []) (c_X12_opensFrom l D b0 r M_19 p1 0 48 0 (by omega) (by omega) (by omega)) rfl rfl (Nat.le_of_ble_eq_true rfl) ⟨Nat.le_of_ble_eq_true rfl, Nat.le_of_ble_eq_true rfl⟩ ⟨Nat.zero_le _, Nat.zero_le _⟩ dX12_reads_113 (fun v_27 M_26 H locs e9 w => ?_)
          obtain ⟨ev_27, eM_26⟩ : v_27 = (f_X12_opensFrom p1 0 48 0 M_19).1 ∧ M_26 = (f_X12_opensFrom p1 0 48 0 M_19).2 := ⟨congrArg Prod.fst e9, congrArg Prod.snd e9⟩
          clear e9
          refine lv_if_ne (tgt := 121) C.1 C.2.1 dX12_reads_116 (by decide) (fun h_28 => ?_) (fun h_28 => ?_)
          · refine lv_aload_n C.1 C.2.1 dX12_reads_121 rfl (lv_at hl 2 rfl) ?_
            refine m_get C w (k := 117) (j := 2) (v := .ref (r (120))) flX12_16 (by decide) rfl rfl dX12_reads_122 ?_
            refine lv_iconst (v := 0) C.1 C.2.1 dX12_reads_125 (by decide) ?_
            refine lv_aload_n C.1 C.2.1 dX12_reads_126 rfl (lv_at hl 2 rfl) ?_
            refine m_get C w (k := 117) (j := 42) (v := .ref (r (157))) flX12_201 (by decide) rfl rfl dX12_reads_127 ?_
            refine lv_iload_n C.1 C.2.1 dX12_reads_130 rfl (lv_at hl 1 rfl) ?_
            refine lv_sipush (v := 128) C.1 C.2.1 dX12_reads_131 (by decide) ?_
            refine lv_iadd C.1 C.2.1 dX12_reads_134 ?_
            refine m_i (y := nI (352 * p1 + 128)) (nI_add (352 * p1) 128) ?_
            refine lv_bipush (v := 32) C.1 C.2.1 dX12_reads_135 (by decide) ?_
            refine m_csv C w hl csX12_265 (As := [.ref (r (120)), .int 0, .ref (r (157)), .int (nI (352 * p1 + 128)), .int 32]) (rest := []) (c_X12_copy l D b0 r M_26 120 0 157 (352 * p1 + 128) 32 (by decide) rfl (by decide) (by omega) (by decide) rfl (by decide) (by omega) (by omega) (by omega)) rfl rfl (Nat.le_of_ble_eq_true rfl) ⟨Nat.le_of_ble_eq_true rfl, Nat.le_of_ble_eq_true rfl⟩ ⟨Nat.zero_le _, Nat.zero_le _⟩ dX12_reads_137 (fun M_29 H locs eM_29 w => ?_)
            refine lv_aload_n C.1 C.2.1 dX12_reads_140 rfl (lv_at hl 2 rfl) ?_
            refine m_get C w (k := 117) (j := 48) (v := .ref (r (163))) flX12_220 (by decide) rfl rfl dX12_reads_141 ?_
            refine lv_iload_n C.1 C.2.1 dX12_reads_144 rfl (lv_at hl 3 rfl) ?_
            refine lv_iconst (v := 1) C.1 C.2.1 dX12_reads_145 (by decide) ?_
            refine m_zast C w (k := 163) (i := p1) (n := 4) (x := (1 : Int32)) (by decide) rfl (by omega) (by decide) (by decide) dX12_reads_146 (fun H locs w => ?_)
            obtain ⟨M_30, eM_30⟩ : ∃ zz, zz = mm_w M_29 163 p1 (1 : Int32) := ⟨_, rfl⟩
            rw [← eM_30] at w
            refine lv_aload_n C.1 C.2.1 dX12_reads_147 rfl (lv_at hl 2 rfl) ?_
            refine lv_iload_n C.1 C.2.1 dX12_reads_148 rfl (lv_at hl 3 rfl) ?_
            refine lv_sipush (v := 224) C.1 C.2.1 dX12_reads_149 (by decide) ?_
            refine lv_sipush (v := 128) C.1 C.2.1 dX12_reads_152 (by decide) ?_
            refine m_cvv C w hl cvX12_427 (k := 117) (by decide) rfl (q := (RX12, TX12, 58)) rfl rfl (As := [.int (nI (p1)), .int 224, .int 128]) (rest := []) (c_X12_agrees l D b0 r M_30 p1 224 128 (by omega) (by omega) (by omega)) rfl rfl (Nat.le_of_ble_eq_true rfl) ⟨Nat.le_of_ble_eq_true rfl, Nat.le_of_ble_eq_true rfl⟩ ⟨Nat.zero_le _, Nat.zero_le _⟩ dX12_reads_155 (fun M_31 H locs eM_31 w => ?_)
            refine lv_iinc (v := (48 : Int32)) (lv' := [(4, .int 48), (3, .int (nI (352 * p1))), (0, .ref (r (117))), (1, .int (nI (p1))), (2, .int (nI (p2)))]) C.1 C.2.1 dX12_reads_158 hl (k := 0) rfl (nI_add 0 48) (by decide) rfl (fun ls hl => ?_)
            refine lv_aload_n C.1 C.2.1 dX12_reads_161 rfl (lv_at hl 2 rfl) ?_
            refine lv_iload_n C.1 C.2.1 dX12_reads_162 rfl (lv_at hl 3 rfl) ?_
            refine lv_iload C.1 C.2.1 dX12_reads_163 (lv_at hl 0 rfl) ?_
            refine lv_iload_n C.1 C.2.1 dX12_reads_165 rfl (lv_at hl 4 rfl) ?_
            refine lv_iload C.1 C.2.1 dX12_reads_166 (lv_at hl 0 rfl) ?_
            refine lv_isub C.1 C.2.1 dX12_reads_168 ?_
            refine m_i (y := nI (p2 - 48)) (pk_sub (a := p2) (b := 48) (by omega)) ?_
            refine lv_iconst (v := 0) C.1 C.2.1 dX12_reads_169 (by decide) ?_
            refine m_cvi C w hl cvX12_441 (k := 117) (by decide) rfl (q := (RX12, TX12, 58)) rfl rfl (As := [.int (nI (p1)), .int 48, .int (nI (p2 - 48)), .int 0]) (rest := []) (c_X12_opensFrom l D b0 r M_31 p1 48 (p2 - 48) 0 (by omega) (by omega) (by omega)) rfl rfl (Nat.le_of_ble_eq_true rfl) ⟨Nat.le_of_ble_eq_true rfl, Nat.le_of_ble_eq_true rfl⟩ ⟨Nat.zero_le _, Nat.zero_le _⟩ dX12_reads_170 (fun v_33 M_32 H locs e9 w => ?_)
            obtain ⟨ev_33, eM_32⟩ : v_33 = (f_X12_opensFrom p1 48 (p2 - 48) 0 M_31).1 ∧ M_32 = (f_X12_opensFrom p1 48 (p2 - 48) 0 M_31).2 := ⟨congrArg Prod.fst e9, congrArg Prod.snd e9⟩
            clear e9
            refine lv_if_ne (tgt := 178) C.1 C.2.1 dX12_reads_173 (by decide) (fun h_34 => ?_) (fun h_34 => ?_)
            · refine lv_iload_n C.1 C.2.1 dX12_reads_178 rfl (lv_at hl 4 rfl) ?_
              refine lv_iload C.1 C.2.1 dX12_reads_179 (lv_at hl 0 rfl) ?_
              refine lv_isub C.1 C.2.1 dX12_reads_181 ?_
              refine m_i (y := nI (p2 - 48)) (pk_sub (a := p2) (b := 48) (by omega)) ?_
              refine lv_aload_n C.1 C.2.1 dX12_reads_182 rfl (lv_at hl 2 rfl) ?_
              refine m_get C w (k := 117) (j := 46) (v := .ref (r (161))) flX12_214 (by decide) rfl rfl dX12_reads_183 ?_
              refine lv_iload_n C.1 C.2.1 dX12_reads_186 rfl (lv_at hl 3 rfl) ?_
              refine m_zald C w (k := 161) (i := p1) (n := 4) (wr := true) (by decide) rfl (by omega) (by decide) dX12_reads_187 ?_
              refine lv_if_eq (tgt := 196) C.1 C.2.1 dX12_reads_188 (by decide) (fun h_35 => ?_) (fun h_35 => ?_)
              · refine lv_iconst (v := 0) C.1 C.2.1 dX12_reads_196 (by decide) ?_
                refine lv_isub C.1 C.2.1 dX12_reads_197 ?_
                exact m_iret C w (by subst eM_19 ev_27 eM_26 eM_29 eM_30 eM_31 ev_33 eM_32; exact Eq.symm (((if_pos h_1).trans ((if_neg (fun q => q h_2)).trans ((if_neg h_20).trans ((if_neg (Nat.not_lt.mpr h_25)).trans ((if_pos h_28).trans ((if_pos h_34).trans ((if_pos h_35).trans rfl))))))))) dX12_reads_198
              · refine lv_bipush (v := 16) C.1 C.2.1 dX12_reads_191 (by decide) ?_
                refine lv_goto (tgt := 197) C.1 C.2.1 dX12_reads_193 (by decide) ?_
                refine lv_isub C.1 C.2.1 dX12_reads_197 ?_
                exact m_iret C w (by subst eM_19 ev_27 eM_26 eM_29 eM_30 eM_31 ev_33 eM_32; exact Eq.symm (((if_pos h_1).trans ((if_neg (fun q => q h_2)).trans ((if_neg h_20).trans ((if_neg (Nat.not_lt.mpr h_25)).trans ((if_pos h_28).trans ((if_pos h_34).trans ((if_neg h_35).trans rfl))))))))) dX12_reads_198
            · refine lv_iconst (v := (-1)) C.1 C.2.1 dX12_reads_176 (by decide) ?_
              exact m_iret C w (by subst eM_19 ev_27 eM_26 eM_29 eM_30 eM_31 ev_33 eM_32; exact Eq.symm (((if_pos h_1).trans ((if_neg (fun q => q h_2)).trans ((if_neg h_20).trans ((if_neg (Nat.not_lt.mpr h_25)).trans ((if_pos h_28).trans ((if_neg (fun q => q h_34)).trans rfl)))))))) dX12_reads_177
          · refine lv_iconst (v := (-1)) C.1 C.2.1 dX12_reads_119 (by decide) ?_
            exact m_iret C w (by subst eM_19 ev_27 eM_26; exact Eq.symm (((if_pos h_1).trans ((if_neg (fun q => q h_2)).trans ((if_neg h_20).trans ((if_neg (Nat.not_lt.mpr h_25)).trans ((if_neg (fun q => q h_28)).trans rfl))))))) dX12_reads_120
  · refine lv_iload_n C.1 C.2.1 dX12_reads_19 rfl (lv_at hl 4 rfl) ?_
    refine lv_bipush (v := 32) C.1 C.2.1 dX12_reads_20 (by decide) ?_
    refine m_icmp_ge (tgt := 27) (a := p2) (b := 32) C (by omega) (by omega) dX12_reads_22 (by decide) (fun h_36 => ?_) (fun h_36 => ?_)
    · refine lv_aload_n C.1 C.2.1 dX12_reads_27 rfl (lv_at hl 2 rfl) ?_
      refine m_get C w (k := 117) (j := 1) (v := .ref (r (119))) flX12_13 (by decide) rfl rfl dX12_reads_28 ?_
      refine lv_iconst (v := 0) C.1 C.2.1 dX12_reads_31 (by decide) ?_
      refine lv_aload_n C.1 C.2.1 dX12_reads_32 rfl (lv_at hl 2 rfl) ?_
      refine m_get C w (k := 117) (j := 42) (v := .ref (r (157))) flX12_201 (by decide) rfl rfl dX12_reads_33 ?_
      refine lv_iload_n C.1 C.2.1 dX12_reads_36 rfl (lv_at hl 1 rfl) ?_
      refine lv_bipush (v := 96) C.1 C.2.1 dX12_reads_37 (by decide) ?_
      refine lv_iadd C.1 C.2.1 dX12_reads_39 ?_
      refine m_i (y := nI (352 * p1 + 96)) (nI_add (352 * p1) 96) ?_
      refine lv_bipush (v := 32) C.1 C.2.1 dX12_reads_40 (by decide) ?_
      refine m_csv C w hl csX12_265 (As := [.ref (r (119)), .int 0, .ref (r (157)), .int (nI (352 * p1 + 96)), .int 32]) (rest := []) (c_X12_copy l D b0 r M 119 0 157 (352 * p1 + 96) 32 (by decide) rfl (by decide) (by omega) (by decide) rfl (by decide) (by omega) (by omega) (by omega)) rfl rfl (Nat.le_of_ble_eq_true rfl) ⟨Nat.le_of_ble_eq_true rfl, Nat.le_of_ble_eq_true rfl⟩ ⟨Nat.zero_le _, Nat.zero_le _⟩ dX12_reads_42 (fun M_37 H locs eM_37 w => ?_)
      refine lv_aload_n C.1 C.2.1 dX12_reads_45 rfl (lv_at hl 2 rfl) ?_
      refine m_get C w (k := 117) (j := 47) (v := .ref (r (162))) flX12_217 (by decide) rfl rfl dX12_reads_46 ?_
      refine lv_iload_n C.1 C.2.1 dX12_reads_49 rfl (lv_at hl 3 rfl) ?_
      refine lv_iconst (v := 1) C.1 C.2.1 dX12_reads_50 (by decide) ?_
      refine m_zast C w (k := 162) (i := p1) (n := 4) (x := (1 : Int32)) (by decide) rfl (by omega) (by decide) (by decide) dX12_reads_51 (fun H locs w => ?_)
      obtain ⟨M_38, eM_38⟩ : ∃ zz, zz = mm_w M_37 162 p1 (1 : Int32) := ⟨_, rfl⟩
      rw [← eM_38] at w
      refine lv_aload_n C.1 C.2.1 dX12_reads_52 rfl (lv_at hl 2 rfl) ?_
      refine lv_iload_n C.1 C.2.1 dX12_reads_53 rfl (lv_at hl 3 rfl) ?_
      refine lv_aload_n C.1 C.2.1 dX12_reads_54 rfl (lv_at hl 2 rfl) ?_
      refine m_get C w (k := 117) (j := 1) (v := .ref (r (119))) flX12_13 (by decide) rfl rfl dX12_reads_55 ?_
      refine lv_iconst (v := 0) C.1 C.2.1 dX12_reads_58 (by decide) ?_
      refine lv_bipush (v := 32) C.1 C.2.1 dX12_reads_59 (by decide) ?_
      refine m_cvv C w hl cvX12_410 (k := 117) (by decide) rfl (q := (RX12, TX12, 58)) rfl rfl (As := [.int (nI (p1)), .ref (r (119)), .int 0, .int 32]) (rest := []) (c_X12_mixHash l D b0 r M_38 p1 119 0 32 (by omega) (by decide) rfl (by decide) (by omega) (by omega) (by omega)) rfl rfl (Nat.le_of_ble_eq_true rfl) ⟨Nat.le_of_ble_eq_true rfl, Nat.le_of_ble_eq_true rfl⟩ ⟨Nat.zero_le _, Nat.zero_le _⟩ dX12_reads_61 (fun M_39 H locs eM_39 w => ?_)
      refine lv_bipush (v := 32) C.1 C.2.1 dX12_reads_64 (by decide) ?_
      refine lv_istore (lv' := [(4, .int 32), (3, .int (nI (352 * p1))), (0, .ref (r (117))), (1, .int (nI (p1))), (2, .int (nI (p2)))]) C.1 C.2.1 dX12_reads_66 hl (by decide) rfl (fun ls hl => ?_)
      refine lv_aload_n C.1 C.2.1 dX12_reads_68 rfl (lv_at hl 2 rfl) ?_
      refine m_get C w (k := 117) (j := 49) (v := .ref (r (164))) flX12_223 (by decide) rfl rfl dX12_reads_69 ?_
      refine lv_iload_n C.1 C.2.1 dX12_reads_72 rfl (lv_at hl 3 rfl) ?_
      refine m_iald C w (k := 164) (i := p1) (n := 4) (wr := true) (by decide) rfl (by omega) (by decide) dX12_reads_73 ?_
      refine lv_iconst (v := 1) C.1 C.2.1 dX12_reads_74 (by decide) ?_
      refine lv_icmp_ne (tgt := 88) C.1 C.2.1 dX12_reads_75 (by decide) (fun h_40 => ?_) (fun h_40 => ?_)
      · refine lv_aload_n C.1 C.2.1 dX12_reads_88 rfl (lv_at hl 2 rfl) ?_
        refine m_get C w (k := 117) (j := 49) (v := .ref (r (164))) flX12_223 (by decide) rfl rfl dX12_reads_89 ?_
        refine lv_iload_n C.1 C.2.1 dX12_reads_92 rfl (lv_at hl 3 rfl) ?_
        refine m_iald C w (k := 164) (i := p1) (n := 4) (wr := true) (by decide) rfl (by omega) (by decide) dX12_reads_93 ?_
        refine lv_if_le (tgt := 161) C.1 C.2.1 dX12_reads_94 (by decide) (fun h_41 => ?_) (fun h_41 => ?_)
        · refine lv_aload_n C.1 C.2.1 dX12_reads_161 rfl (lv_at hl 2 rfl) ?_
          refine lv_iload_n C.1 C.2.1 dX12_reads_162 rfl (lv_at hl 3 rfl) ?_
          refine lv_iload C.1 C.2.1 dX12_reads_163 (lv_at hl 0 rfl) ?_
          refine lv_iload_n C.1 C.2.1 dX12_reads_165 rfl (lv_at hl 4 rfl) ?_
          refine lv_iload C.1 C.2.1 dX12_reads_166 (lv_at hl 0 rfl) ?_
          refine lv_isub C.1 C.2.1 dX12_reads_168 ?_
          refine m_i (y := nI (p2 - 32)) (pk_sub (a := p2) (b := 32) (by omega)) ?_
          refine lv_iconst (v := 0) C.1 C.2.1 dX12_reads_169 (by decide) ?_
          refine m_cvi C w hl cvX12_441 (k := 117) (by decide) rfl (q := (RX12, TX12, 58)) rfl rfl (As := [.int (nI (p1)), .int 32, .int (nI (p2 - 32)), .int 0]) (rest := []) (c_X12_opensFrom l D b0 r M_39 p1 32 (p2 - 32) 0 (by omega) (by omega) (by omega)) rfl rfl (Nat.le_of_ble_eq_true rfl) ⟨Nat.le_of_ble_eq_true rfl, Nat.le_of_ble_eq_true rfl⟩ ⟨Nat.zero_le _, Nat.zero_le _⟩ dX12_reads_170 (fun v_43 M_42 H locs e9 w => ?_)
          obtain ⟨ev_43, eM_42⟩ : v_43 = (f_X12_opensFrom p1 32 (p2 - 32) 0 M_39).1 ∧ M_42 = (f_X12_opensFrom p1 32 (p2 - 32) 0 M_39).2 := ⟨congrArg Prod.fst e9, congrArg Prod.snd e9⟩
          clear e9
          refine lv_if_ne (tgt := 178) C.1 C.2.1 dX12_reads_173 (by decide) (fun h_44 => ?_) (fun h_44 => ?_)
          · refine lv_iload_n C.1 C.2.1 dX12_reads_178 rfl (lv_at hl 4 rfl) ?_
            refine lv_iload C.1 C.2.1 dX12_reads_179 (lv_at hl 0 rfl) ?_
            refine lv_isub C.1 C.2.1 dX12_reads_181 ?_
            refine m_i (y := nI (p2 - 32)) (pk_sub (a := p2) (b := 32) (by omega)) ?_
            refine lv_aload_n C.1 C.2.1 dX12_reads_182 rfl (lv_at hl 2 rfl) ?_
            refine m_get C w (k := 117) (j := 46) (v := .ref (r (161))) flX12_214 (by decide) rfl rfl dX12_reads_183 ?_
            refine lv_iload_n C.1 C.2.1 dX12_reads_186 rfl (lv_at hl 3 rfl) ?_
            refine m_zald C w (k := 161) (i := p1) (n := 4) (wr := true) (by decide) rfl (by omega) (by decide) dX12_reads_187 ?_
            refine lv_if_eq (tgt := 196) C.1 C.2.1 dX12_reads_188 (by decide) (fun h_45 => ?_) (fun h_45 => ?_)
            · refine lv_iconst (v := 0) C.1 C.2.1 dX12_reads_196 (by decide) ?_
              refine lv_isub C.1 C.2.1 dX12_reads_197 ?_
              exact m_iret C w (by subst eM_37 eM_38 eM_39 ev_43 eM_42; exact Eq.symm (((if_neg h_1).trans ((if_pos h_36).trans ((if_pos h_40).trans ((if_pos h_41).trans ((if_pos h_44).trans ((if_pos h_45).trans rfl)))))))) dX12_reads_198
            · refine lv_bipush (v := 16) C.1 C.2.1 dX12_reads_191 (by decide) ?_
              refine lv_goto (tgt := 197) C.1 C.2.1 dX12_reads_193 (by decide) ?_
              refine lv_isub C.1 C.2.1 dX12_reads_197 ?_
              exact m_iret C w (by subst eM_37 eM_38 eM_39 ev_43 eM_42; exact Eq.symm (((if_neg h_1).trans ((if_pos h_36).trans ((if_pos h_40).trans ((if_pos h_41).trans ((if_pos h_44).trans ((if_neg h_45).trans rfl)))))))) dX12_reads_198
          · refine lv_iconst (v := (-1)) C.1 C.2.1 dX12_reads_176 (by decide) ?_
            exact m_iret C w (by subst eM_37 eM_38 eM_39 ev_43 eM_42; exact Eq.symm (((if_neg h_1).trans ((if_pos h_36).trans ((if_pos h_40).trans ((if_pos h_41).trans ((if_neg (fun q => q h_44)).trans rfl))))))) dX12_reads_177
        · refine lv_iload_n C.1 C.2.1 dX12_reads_97 rfl (lv_at hl 4 rfl) ?_
          refine lv_iload C.1 C.2.1 dX12_reads_98 (lv_at hl 0 rfl) ?_
          refine lv_bipush (v := 48) C.1 C.2.1 dX12_reads_100 (by decide) ?_
          refine lv_iadd C.1 C.2.1 dX12_reads_102 ?_
          refine m_i (y := nI (80)) (nI_add 32 48) ?_
          refine m_icmp_lt (tgt := 119) (a := p2) (b := 80) C (by omega) (by omega) dX12_reads_103 (by decide) (fun h_46 => ?_) (fun h_46 => ?_)
          · refine lv_iconst (v := (-1)) C.1 C.2.1 dX12_reads_119 (by decide) ?_
            exact m_iret C w (by subst eM_37 eM_38 eM_39; exact Eq.symm (((if_neg h_1).trans ((if_pos h_36).trans ((if_pos h_40).trans ((if_neg h_41).trans ((if_pos h_46).trans rfl))))))) dX12_reads_120
          · refine lv_aload_n C.1 C.2.1 dX12_reads_106 rfl (lv_at hl 2 rfl) ?_
            refine lv_iload_n C.1 C.2.1 dX12_reads_107 rfl (lv_at hl 3 rfl) ?_
            refine lv_iload C.1 C.2.1 dX12_reads_108 (lv_at hl 0 rfl) ?_
            refine lv_bipush (v := 48) C.1 C.2.1 dX12_reads_110 (by decide) ?_
            refine lv_iconst (v := 0) C.1 C.2.1 dX12_reads_112 (by decide) ?_
            refine m_cvi C w hl cvX12_441 (k := 117) (by decide) rfl (q := (RX12, TX12, 58)) rfl rfl (As := [.int (nI (p1)), .int 32, .int 48, .int 0]) (rest := []) (c_X12_opensFrom l D b0 r M_39 p1 32 48 0 (by omega) (by omega) (by omega)) rfl rfl (Nat.le_of_ble_eq_true rfl) ⟨Nat.le_of_ble_eq_true rfl, Nat.le_of_ble_eq_true rfl⟩ ⟨Nat.zero_le _, Nat.zero_le _⟩ dX12_reads_113 (fun v_48 M_47 H locs e9 w => ?_)
            obtain ⟨ev_48, eM_47⟩ : v_48 = (f_X12_opensFrom p1 32 48 0 M_39).1 ∧ M_47 = (f_X12_opensFrom p1 32 48 0 M_39).2 := ⟨congrArg Prod.fst e9, congrArg Prod.snd e9⟩
            clear e9
            refine lv_if_ne (tgt := 121) C.1 C.2.1 dX12_reads_116 (by decide) (fun h_49 => ?_) (fun h_49 => ?_)
            · refine lv_aload_n C.1 C.2.1 dX12_reads_121 rfl (lv_at hl 2 rfl) ?_
              refine m_get C w (k := 117) (j := 2) (v := .ref (r (120))) flX12_16 (by decide) rfl rfl dX12_reads_122 ?_
              refine lv_iconst (v := 0) C.1 C.2.1 dX12_reads_125 (by decide) ?_
              refine lv_aload_n C.1 C.2.1 dX12_reads_126 rfl (lv_at hl 2 rfl) ?_
              refine m_get C w (k := 117) (j := 42) (v := .ref (r (157))) flX12_201 (by decide) rfl rfl dX12_reads_127 ?_
              refine lv_iload_n C.1 C.2.1 dX12_reads_130 rfl (lv_at hl 1 rfl) ?_
              refine lv_sipush (v := 128) C.1 C.2.1 dX12_reads_131 (by decide) ?_
              refine lv_iadd C.1 C.2.1 dX12_reads_134 ?_
              refine m_i (y := nI (352 * p1 + 128)) (nI_add (352 * p1) 128) ?_
              refine lv_bipush (v := 32) C.1 C.2.1 dX12_reads_135 (by decide) ?_
              refine m_csv C w hl csX12_265 (As := [.ref (r (120)), .int 0, .ref (r (157)), .int (nI (352 * p1 + 128)), .int 32]) (rest := []) (c_X12_copy l D b0 r M_47 120 0 157 (352 * p1 + 128) 32 (by decide) rfl (by decide) (by omega) (by decide) rfl (by decide) (by omega) (by omega) (by omega)) rfl rfl (Nat.le_of_ble_eq_true rfl) ⟨Nat.le_of_ble_eq_true rfl, Nat.le_of_ble_eq_true rfl⟩ ⟨Nat.zero_le _, Nat.zero_le _⟩ dX12_reads_137 (fun M_50 H locs eM_50 w => ?_)
              refine lv_aload_n C.1 C.2.1 dX12_reads_140 rfl (lv_at hl 2 rfl) ?_
              refine m_get C w (k := 117) (j := 48) (v := .ref (r (163))) flX12_220 (by decide) rfl rfl dX12_reads_141 ?_
              refine lv_iload_n C.1 C.2.1 dX12_reads_144 rfl (lv_at hl 3 rfl) ?_
              refine lv_iconst (v := 1) C.1 C.2.1 dX12_reads_145 (by decide) ?_
              refine m_zast C w (k := 163) (i := p1) (n := 4) (x := (1 : Int32)) (by decide) rfl (by omega) (by decide) (by decide) dX12_reads_146 (fun H locs w => ?_)
              obtain ⟨M_51, eM_51⟩ : ∃ zz, zz = mm_w M_50 163 p1 (1 : Int32) := ⟨_, rfl⟩
              rw [← eM_51] at w
              refine lv_aload_n C.1 C.2.1 dX12_reads_147 rfl (lv_at hl 2 rfl) ?_
              refine lv_iload_n C.1 C.2.1 dX12_reads_148 rfl (lv_at hl 3 rfl) ?_
              refine lv_sipush (v := 224) C.1 C.2.1 dX12_reads_149 (by decide) ?_
              refine lv_sipush (v := 128) C.1 C.2.1 dX12_reads_152 (by decide) ?_
              refine m_cvv C w hl cvX12_427 (k := 117) (by decide) rfl (q := (RX12, TX12, 58)) rfl rfl (As := [.int (nI (p1)), .int 224, .int 128]) (rest := []) (c_X12_agrees l D b0 r M_51 p1 224 128 (by omega) (by omega) (by omega)) rfl rfl (Nat.le_of_ble_eq_true rfl) ⟨Nat.le_of_ble_eq_true rfl, Nat.le_of_ble_eq_true rfl⟩ ⟨Nat.zero_le _, Nat.zero_le _⟩ dX12_reads_155 (fun M_52 H locs eM_52 w => ?_)
              refine lv_iinc (v := (80 : Int32)) (lv' := [(4, .int 80), (3, .int (nI (352 * p1))), (0, .ref (r (117))), (1, .int (nI (p1))), (2, .int (nI (p2)))]) C.1 C.2.1 dX12_reads_158 hl (k := 0) rfl (nI_add 32 48) (by decide) rfl (fun ls hl => ?_)
              refine lv_aload_n C.1 C.2.1 dX12_reads_161 rfl (lv_at hl 2 rfl) ?_
              refine lv_iload_n C.1 C.2.1 dX12_reads_162 rfl (lv_at hl 3 rfl) ?_
              refine lv_iload C.1 C.2.1 dX12_reads_163 (lv_at hl 0 rfl) ?_
              refine lv_iload_n C.1 C.2.1 dX12_reads_165 rfl (lv_at hl 4 rfl) ?_
              refine lv_iload C.1 C.2.1 dX12_reads_166 (lv_at hl 0 rfl) ?_
              refine lv_isub C.1 C.2.1 dX12_reads_168 ?_
              refine m_i (y := nI (p2 - 80)) (pk_sub (a := p2) (b := 80) (by omega)) ?_
              refine lv_iconst (v := 0) C.1 C.2.1 dX12_reads_169 (by decide) ?_
              refine m_cvi C w hl cvX12_441 (k := 117) (by decide) rfl (q := (RX12, TX12, 58)) rfl rfl (As := [.int (nI (p1)), .int 80, .int (nI (p2 - 80)), .int 0]) (rest := []) (c_X12_opensFrom l D b0 r M_52 p1 80 (p2 - 80) 0 (by omega) (by omega) (by omega)) rfl rfl (Nat.le_of_ble_eq_true rfl) ⟨Nat.le_of_ble_eq_true rfl, Nat.le_of_ble_eq_true rfl⟩ ⟨Nat.zero_le _, Nat.zero_le _⟩ dX12_reads_170 (fun v_54 M_53 H locs e9 w => ?_)
              obtain ⟨ev_54, eM_53⟩ : v_54 = (f_X12_opensFrom p1 80 (p2 - 80) 0 M_52).1 ∧ M_53 = (f_X12_opensFrom p1 80 (p2 - 80) 0 M_52).2 := ⟨congrArg Prod.fst e9, congrArg Prod.snd e9⟩
              clear e9
              refine lv_if_ne (tgt := 178) C.1 C.2.1 dX12_reads_173 (by decide) (fun h_55 => ?_) (fun h_55 => ?_)
              · refine lv_iload_n C.1 C.2.1 dX12_reads_178 rfl (lv_at hl 4 rfl) ?_
                refine lv_iload C.1 C.2.1 dX12_reads_179 (lv_at hl 0 rfl) ?_
                refine lv_isub C.1 C.2.1 dX12_reads_181 ?_
                refine m_i (y := nI (p2 - 80)) (pk_sub (a := p2) (b := 80) (by omega)) ?_
                refine lv_aload_n C.1 C.2.1 dX12_reads_182 rfl (lv_at hl 2 rfl) ?_
                refine m_get C w (k := 117) (j := 46) (v := .ref (r (161))) flX12_214 (by decide) rfl rfl dX12_reads_183 ?_
                refine lv_iload_n C.1 C.2.1 dX12_reads_186 rfl (lv_at hl 3 rfl) ?_
                refine m_zald C w (k := 161) (i := p1) (n := 4) (wr := true) (by decide) rfl (by omega) (by decide) dX12_reads_187 ?_
                refine lv_if_eq (tgt := 196) C.1 C.2.1 dX12_reads_188 (by decide) (fun h_56 => ?_) (fun h_56 => ?_)
                · refine lv_iconst (v := 0) C.1 C.2.1 dX12_reads_196 (by decide) ?_
                  refine lv_isub C.1 C.2.1 dX12_reads_197 ?_
                  exact m_iret C w (by subst eM_37 eM_38 eM_39 ev_48 eM_47 eM_50 eM_51 eM_52 ev_54 eM_53; exact Eq.symm (((if_neg h_1).trans ((if_pos h_36).trans ((if_pos h_40).trans ((if_neg h_41).trans ((if_neg (Nat.not_lt.mpr h_46)).trans ((if_pos h_49).trans ((if_pos h_55).trans ((if_pos h_56).trans rfl)))))))))) dX12_reads_198
                · refine lv_bipush (v := 16) C.1 C.2.1 dX12_reads_191 (by decide) ?_
                  refine lv_goto (tgt := 197) C.1 C.2.1 dX12_reads_193 (by decide) ?_
                  refine lv_isub C.1 C.2.1 dX12_reads_197 ?_
                  exact m_iret C w (by subst eM_37 eM_38 eM_39 ev_48 eM_47 eM_50 eM_51 eM_52 ev_54 eM_53; exact Eq.symm (((if_neg h_1).trans ((if_pos h_36).trans ((if_pos h_40).trans ((if_neg h_41).trans ((if_neg (Nat.not_lt.mpr h_46)).trans ((if_pos h_49).trans ((if_pos h_55).trans ((if_neg h_56).trans rfl)))))))))) dX12_reads_198
              · refine lv_iconst (v := (-1)) C.1 C.2.1 dX12_reads_176 (by decide) ?_
                exact m_iret C w (by subst eM_37 eM_38 eM_39 ev_48 eM_47 eM_50 eM_51 eM_52 ev_54 eM_53; exact Eq.symm (((if_neg h_1).trans ((if_pos h_36).trans ((if_pos h_40).trans ((if_neg h_41).trans ((if_neg (Nat.not_lt.mpr h_46)).trans ((if_pos h_49).trans ((if_neg (fun q => q h_55)).trans rfl))))))))) dX12_reads_177
            · refine lv_iconst (v := (-1)) C.1 C.2.1 dX12_reads_119 (by decide) ?_
              exact m_iret C w (by subst eM_37 eM_38 eM_39 ev_48 eM_47; exact Eq.symm (((if_neg h_1).trans ((if_pos h_36).trans ((if_pos h_40).trans ((if_neg h_41).trans ((if_neg (Nat.not_lt.mpr h_46)).trans ((if_neg (fun q => q h_49)).trans rfl)))))))) dX12_reads_120
      · refine lv_aload_n C.1 C.2.1 dX12_reads_78 rfl (lv_at hl 2 rfl) ?_
        refine lv_iload_n C.1 C.2.1 dX12_reads_79 rfl (lv_at hl 3 rfl) ?_
        refine lv_sipush (v := 224) C.1 C.2.1 dX12_reads_80 (by decide) ?_
        refine lv_bipush (v := 96) C.1 C.2.1 dX12_reads_83 (by decide) ?_
        refine m_cvv C w hl cvX12_427 (k := 117) (by decide) rfl (q := (RX12, TX12, 58)) rfl rfl (As := [.int (nI (p1)), .int 224, .int 96]) (rest := []) (c_X12_agrees l D b0 r M_39 p1 224 96 (by omega) (by omega) (by omega)) rfl rfl (Nat.le_of_ble_eq_true rfl) ⟨Nat.le_of_ble_eq_true rfl, Nat.le_of_ble_eq_true rfl⟩ ⟨Nat.zero_le _, Nat.zero_le _⟩ dX12_reads_85 (fun M_57 H locs eM_57 w => ?_)
        refine lv_aload_n C.1 C.2.1 dX12_reads_88 rfl (lv_at hl 2 rfl) ?_
        refine m_get C w (k := 117) (j := 49) (v := .ref (r (164))) flX12_223 (by decide) rfl rfl dX12_reads_89 ?_
        refine lv_iload_n C.1 C.2.1 dX12_reads_92 rfl (lv_at hl 3 rfl) ?_
        refine m_iald C w (k := 164) (i := p1) (n := 4) (wr := true) (by decide) rfl (by omega) (by decide) dX12_reads_93 ?_
        refine lv_if_le (tgt := 161) C.1 C.2.1 dX12_reads_94 (by decide) (fun h_58 => ?_) (fun h_58 => ?_)
        · refine lv_aload_n C.1 C.2.1 dX12_reads_161 rfl (lv_at hl 2 rfl) ?_
          refine lv_iload_n C.1 C.2.1 dX12_reads_162 rfl (lv_at hl 3 rfl) ?_
          refine lv_iload C.1 C.2.1 dX12_reads_163 (lv_at hl 0 rfl) ?_
          refine lv_iload_n C.1 C.2.1 dX12_reads_165 rfl (lv_at hl 4 rfl) ?_
          refine lv_iload C.1 C.2.1 dX12_reads_166 (lv_at hl 0 rfl) ?_
          refine lv_isub C.1 C.2.1 dX12_reads_168 ?_
          refine m_i (y := nI (p2 - 32)) (pk_sub (a := p2) (b := 32) (by omega)) ?_
          refine lv_iconst (v := 0) C.1 C.2.1 dX12_reads_169 (by decide) ?_
          refine m_cvi C w hl cvX12_441 (k := 117) (by decide) rfl (q := (RX12, TX12, 58)) rfl rfl (As := [.int (nI (p1)), .int 32, .int (nI (p2 - 32)), .int 0]) (rest := []) (c_X12_opensFrom l D b0 r M_57 p1 32 (p2 - 32) 0 (by omega) (by omega) (by omega)) rfl rfl (Nat.le_of_ble_eq_true rfl) ⟨Nat.le_of_ble_eq_true rfl, Nat.le_of_ble_eq_true rfl⟩ ⟨Nat.zero_le _, Nat.zero_le _⟩ dX12_reads_170 (fun v_60 M_59 H locs e9 w => ?_)
          obtain ⟨ev_60, eM_59⟩ : v_60 = (f_X12_opensFrom p1 32 (p2 - 32) 0 M_57).1 ∧ M_59 = (f_X12_opensFrom p1 32 (p2 - 32) 0 M_57).2 := ⟨congrArg Prod.fst e9, congrArg Prod.snd e9⟩
          clear e9
          refine lv_if_ne (tgt := 178) C.1 C.2.1 dX12_reads_173 (by decide) (fun h_61 => ?_) (fun h_61 => ?_)
          · refine lv_iload_n C.1 C.2.1 dX12_reads_178 rfl (lv_at hl 4 rfl) ?_
            refine lv_iload C.1 C.2.1 dX12_reads_179 (lv_at hl 0 rfl) ?_
            refine lv_isub C.1 C.2.1 dX12_reads_181 ?_
            refine m_i (y := nI (p2 - 32)) (pk_sub (a := p2) (b := 32) (by omega)) ?_
            refine lv_aload_n C.1 C.2.1 dX12_reads_182 rfl (lv_at hl 2 rfl) ?_
            refine m_get C w (k := 117) (j := 46) (v := .ref (r (161))) flX12_214 (by decide) rfl rfl dX12_reads_183 ?_
            refine lv_iload_n C.1 C.2.1 dX12_reads_186 rfl (lv_at hl 3 rfl) ?_
            refine m_zald C w (k := 161) (i := p1) (n := 4) (wr := true) (by decide) rfl (by omega) (by decide) dX12_reads_187 ?_
            refine lv_if_eq (tgt := 196) C.1 C.2.1 dX12_reads_188 (by decide) (fun h_62 => ?_) (fun h_62 => ?_)
            · refine lv_iconst (v := 0) C.1 C.2.1 dX12_reads_196 (by decide) ?_
              refine lv_isub C.1 C.2.1 dX12_reads_197 ?_
              exact m_iret C w (by subst eM_37 eM_38 eM_39 eM_57 ev_60 eM_59; exact Eq.symm (((if_neg h_1).trans ((if_pos h_36).trans ((if_neg (fun q => q h_40)).trans ((if_pos h_58).trans ((if_pos h_61).trans ((if_pos h_62).trans rfl)))))))) dX12_reads_198
            · refine lv_bipush (v := 16) C.1 C.2.1 dX12_reads_191 (by decide) ?_
              refine lv_goto (tgt := 197) C.1 C.2.1 dX12_reads_193 (by decide) ?_
              refine lv_isub C.1 C.2.1 dX12_reads_197 ?_
              exact m_iret C w (by subst eM_37 eM_38 eM_39 eM_57 ev_60 eM_59; exact Eq.symm (((if_neg h_1).trans ((if_pos h_36).trans ((if_neg (fun q => q h_40)).trans ((if_pos h_58).trans ((if_pos h_61).trans ((if_neg h_62).trans rfl)))))))) dX12_reads_198
          · refine lv_iconst (v := (-1)) C.1 C.2.1 dX12_reads_176 (by decide) ?_
            exact m_iret C w (by subst eM_37 eM_38 eM_39 eM_57 ev_60 eM_59; exact Eq.symm (((if_neg h_1).trans ((if_pos h_36).trans ((if_neg (fun q => q h_40)).trans ((if_pos h_58).trans ((if_neg (fun q => q h_61)).trans rfl))))))) dX12_reads_177
        · refine lv_iload_n C.1 C.2.1 dX12_reads_97 rfl (lv_at hl 4 rfl) ?_
          refine lv_iload C.1 C.2.1 dX12_reads_98 (lv_at hl 0 rfl) ?_
          refine lv_bipush (v := 48) C.1 C.2.1 dX12_reads_100 (by decide) ?_
          refine lv_iadd C.1 C.2.1 dX12_reads_102 ?_
          refine m_i (y := nI (80)) (nI_add 32 48) ?_
          refine m_icmp_lt (tgt := 119) (a := p2) (b := 80) C (by omega) (by omega) dX12_reads_103 (by decide) (fun h_63 => ?_) (fun h_63 => ?_)
          · refine lv_iconst (v := (-1)) C.1 C.2.1 dX12_reads_119 (by decide) ?_
            exact m_iret C w (by subst eM_37 eM_38 eM_39 eM_57; exact Eq.symm (((if_neg h_1).trans ((if_pos h_36).trans ((if_neg (fun q => q h_40)).trans ((if_neg h_58).trans ((if_pos h_63).trans rfl))))))) dX12_reads_120
          · refine lv_aload_n C.1 C.2.1 dX12_reads_106 rfl (lv_at hl 2 rfl) ?_
            refine lv_iload_n C.1 C.2.1 dX12_reads_107 rfl (lv_at hl 3 rfl) ?_
            refine lv_iload C.1 C.2.1 dX12_reads_108 (lv_at hl 0 rfl) ?_
            refine lv_bipush (v := 48) C.1 C.2.1 dX12_reads_110 (by decide) ?_
            refine lv_iconst (v := 0) C.1 C.2.1 dX12_reads_112 (by decide) ?_
            refine m_cvi C w hl cvX12_441 (k := 117) (by decide) rfl (q := (RX12, TX12, 58)) rfl rfl (As := [.int (nI (p1)), .int 32, .int 48, .int 0]) (rest := []) (c_X12_opensFrom l D b0 r M_57 p1 32 48 0 (by omega) (by omega) (by omega)) rfl rfl (Nat.le_of_ble_eq_true rfl) ⟨Nat.le_of_ble_eq_true rfl, Nat.le_of_ble_eq_true rfl⟩ ⟨Nat.zero_le _, Nat.zero_le _⟩ dX12_reads_113 (fun v_65 M_64 H locs e9 w => ?_)
            obtain ⟨ev_65, eM_64⟩ : v_65 = (f_X12_opensFrom p1 32 48 0 M_57).1 ∧ M_64 = (f_X12_opensFrom p1 32 48 0 M_57).2 := ⟨congrArg Prod.fst e9, congrArg Prod.snd e9⟩
            clear e9
            refine lv_if_ne (tgt := 121) C.1 C.2.1 dX12_reads_116 (by decide) (fun h_66 => ?_) (fun h_66 => ?_)
            · refine lv_aload_n C.1 C.2.1 dX12_reads_121 rfl (lv_at hl 2 rfl) ?_
              refine m_get C w (k := 117) (j := 2) (v := .ref (r (120))) flX12_16 (by decide) rfl rfl dX12_reads_122 ?_
              refine lv_iconst (v := 0) C.1 C.2.1 dX12_reads_125 (by decide) ?_
              refine lv_aload_n C.1 C.2.1 dX12_reads_126 rfl (lv_at hl 2 rfl) ?_
              refine m_get C w (k := 117) (j := 42) (v := .ref (r (157))) flX12_201 (by decide) rfl rfl dX12_reads_127 ?_
              refine lv_iload_n C.1 C.2.1 dX12_reads_130 rfl (lv_at hl 1 rfl) ?_
              refine lv_sipush (v := 128) C.1 C.2.1 dX12_reads_131 (by decide) ?_
              refine lv_iadd C.1 C.2.1 dX12_reads_134 ?_
              refine m_i (y := nI (352 * p1 + 128)) (nI_add (352 * p1) 128) ?_
              refine lv_bipush (v := 32) C.1 C.2.1 dX12_reads_135 (by decide) ?_
              refine m_csv C w hl csX12_265 (As := [.ref (r (120)), .int 0, .ref (r (157)), .int (nI (352 * p1 + 128)), .int 32]) (rest := []) (c_X12_copy l D b0 r M_64 120 0 157 (352 * p1 + 128) 32 (by decide) rfl (by decide) (by omega) (by decide) rfl (by decide) (by omega) (by omega) (by omega)) rfl rfl (Nat.le_of_ble_eq_true rfl) ⟨Nat.le_of_ble_eq_true rfl, Nat.le_of_ble_eq_true rfl⟩ ⟨Nat.zero_le _, Nat.zero_le _⟩ dX12_reads_137 (fun M_67 H locs eM_67 w => ?_)
              refine lv_aload_n C.1 C.2.1 dX12_reads_140 rfl (lv_at hl 2 rfl) ?_
              refine m_get C w (k := 117) (j := 48) (v := .ref (r (163))) flX12_220 (by decide) rfl rfl dX12_reads_141 ?_
              refine lv_iload_n C.1 C.2.1 dX12_reads_144 rfl (lv_at hl 3 rfl) ?_
              refine lv_iconst (v := 1) C.1 C.2.1 dX12_reads_145 (by decide) ?_
              refine m_zast C w (k := 163) (i := p1) (n := 4) (x := (1 : Int32)) (by decide) rfl (by omega) (by decide) (by decide) dX12_reads_146 (fun H locs w => ?_)
              obtain ⟨M_68, eM_68⟩ : ∃ zz, zz = mm_w M_67 163 p1 (1 : Int32) := ⟨_, rfl⟩
              rw [← eM_68] at w
              refine lv_aload_n C.1 C.2.1 dX12_reads_147 rfl (lv_at hl 2 rfl) ?_
              refine lv_iload_n C.1 C.2.1 dX12_reads_148 rfl (lv_at hl 3 rfl) ?_
              refine lv_sipush (v := 224) C.1 C.2.1 dX12_reads_149 (by decide) ?_
              refine lv_sipush (v := 128) C.1 C.2.1 dX12_reads_152 (by decide) ?_
              refine m_cvv C w hl cvX12_427 (k := 117) (by decide) rfl (q := (RX12, TX12, 58)) rfl rfl (As := [.int (nI (p1)), .int 224, .int 128]) (rest := []) (c_X12_agrees l D b0 r M_68 p1 224 128 (by omega) (by omega) (by omega)) rfl rfl (Nat.le_of_ble_eq_true rfl) ⟨Nat.le_of_ble_eq_true rfl, Nat.le_of_ble_eq_true rfl⟩ ⟨Nat.zero_le _, Nat.zero_le _⟩ dX12_reads_155 (fun M_69 H locs eM_69 w => ?_)
              refine lv_iinc (v := (80 : Int32)) (lv' := [(4, .int 80), (3, .int (nI (352 * p1))), (0, .ref (r (117))), (1, .int (nI (p1))), (2, .int (nI (p2)))]) C.1 C.2.1 dX12_reads_158 hl (k := 0) rfl (nI_add 32 48) (by decide) rfl (fun ls hl => ?_)
              refine lv_aload_n C.1 C.2.1 dX12_reads_161 rfl (lv_at hl 2 rfl) ?_
              refine lv_iload_n C.1 C.2.1 dX12_reads_162 rfl (lv_at hl 3 rfl) ?_
              refine lv_iload C.1 C.2.1 dX12_reads_163 (lv_at hl 0 rfl) ?_
              refine lv_iload_n C.1 C.2.1 dX12_reads_165 rfl (lv_at hl 4 rfl) ?_
              refine lv_iload C.1 C.2.1 dX12_reads_166 (lv_at hl 0 rfl) ?_
              refine lv_isub C.1 C.2.1 dX12_reads_168 ?_
              refine m_i (y := nI (p2 - 80)) (pk_sub (a := p2) (b := 80) (by omega)) ?_
              refine lv_iconst (v := 0) C.1 C.2.1 dX12_reads_169 (by decide) ?_
              refine m_cvi C w hl cvX12_441 (k := 117) (by decide) rfl (q := (RX12, TX12, 58)) rfl rfl (As := [.int (nI (p1)), .int 80, .int (nI (p2 - 80)), .int 0]) (rest := []) (c_X12_opensFrom l D b0 r M_69 p1 80 (p2 - 80) 0 (by omega) (by omega) (by omega)) rfl rfl (Nat.le_of_ble_eq_true rfl) ⟨Nat.le_of_ble_eq_true rfl, Nat.le_of_ble_eq_true rfl⟩ ⟨Nat.zero_le _, Nat.zero_le _⟩ dX12_reads_170 (fun v_71 M_70 H locs e9 w => ?_)
              obtain ⟨ev_71, eM_70⟩ : v_71 = (f_X12_opensFrom p1 80 (p2 - 80) 0 M_69).1 ∧ M_70 = (f_X12_opensFrom p1 80 (p2 - 80) 0 M_69).2 := ⟨congrArg Prod.fst e9, congrArg Prod.snd e9⟩
              clear e9
              refine lv_if_ne (tgt := 178) C.1 C.2.1 dX12_reads_173 (by decide) (fun h_72 => ?_) (fun h_72 => ?_)
              · refine lv_iload_n C.1 C.2.1 dX12_reads_178 rfl (lv_at hl 4 rfl) ?_
                refine lv_iload C.1 C.2.1 dX12_reads_179 (lv_at hl 0 rfl) ?_
                refine lv_isub C.1 C.2.1 dX12_reads_181 ?_
                refine m_i (y := nI (p2 - 80)) (pk_sub (a := p2) (b := 80) (by omega)) ?_
                refine lv_aload_n C.1 C.2.1 dX12_reads_182 rfl (lv_at hl 2 rfl) ?_
                refine m_get C w (k := 117) (j := 46) (v := .ref (r (161))) flX12_214 (by decide) rfl rfl dX12_reads_183 ?_
                refine lv_iload_n C.1 C.2.1 dX12_reads_186 rfl (lv_at hl 3 rfl) ?_
                refine m_zald C w (k := 161) (i := p1) (n := 4) (wr := true) (by decide) rfl (by omega) (by decide) dX12_reads_187 ?_
                refine lv_if_eq (tgt := 196) C.1 C.2.1 dX12_reads_188 (by decide) (fun h_73 => ?_) (fun h_73 => ?_)
                · refine lv_iconst (v := 0) C.1 C.2.1 dX12_reads_196 (by decide) ?_
                  refine lv_isub C.1 C.2.1 dX12_reads_197 ?_
                  exact m_iret C w (by subst eM_37 eM_38 eM_39 eM_57 ev_65 eM_64 eM_67 eM_68 eM_69 ev_71 eM_70; exact Eq.symm (((if_neg h_1).trans ((if_pos h_36).trans ((if_neg (fun q => q h_40)).trans ((if_neg h_58).trans ((if_neg (Nat.not_lt.mpr h_63)).trans ((if_pos h_66).trans ((if_pos h_72).trans ((if_pos h_73).trans rfl)))))))))) dX12_reads_198
                · refine lv_bipush (v := 16) C.1 C.2.1 dX12_reads_191 (by decide) ?_
                  refine lv_goto (tgt := 197) C.1 C.2.1 dX12_reads_193 (by decide) ?_
                  refine lv_isub C.1 C.2.1 dX12_reads_197 ?_
                  exact m_iret C w (by subst eM_37 eM_38 eM_39 eM_57 ev_65 eM_64 eM_67 eM_68 eM_69 ev_71 eM_70; exact Eq.symm (((if_neg h_1).trans ((if_pos h_36).trans ((if_neg (fun q => q h_40)).trans ((if_neg h_58).trans ((if_neg (Nat.not_lt.mpr h_63)).trans ((if_pos h_66).trans ((if_pos h_72).trans ((if_neg h_73).trans rfl)))))))))) dX12_reads_198
              · refine lv_iconst (v := (-1)) C.1 C.2.1 dX12_reads_176 (by decide) ?_
                exact m_iret C w (by subst eM_37 eM_38 eM_39 eM_57 ev_65 eM_64 eM_67 eM_68 eM_69 ev_71 eM_70; exact Eq.symm (((if_neg h_1).trans ((if_pos h_36).trans ((if_neg (fun q => q h_40)).trans ((if_neg h_58).trans ((if_neg (Nat.not_lt.mpr h_63)).trans ((if_pos h_66).trans ((if_neg (fun q => q h_72)).trans rfl))))))))) dX12_reads_177
            · refine lv_iconst (v := (-1)) C.1 C.2.1 dX12_reads_119 (by decide) ?_
              exact m_iret C w (by subst eM_37 eM_38 eM_39 eM_57 ev_65 eM_64; exact Eq.symm (((if_neg h_1).trans ((if_pos h_36).trans ((if_neg (fun q => q h_40)).trans ((if_neg h_58).trans ((if_neg (Nat.not_lt.mpr h_63)).trans ((if_neg (fun q => q h_66)).trans rfl)))))))) dX12_reads_120
    · refine lv_iconst (v := (-1)) C.1 C.2.1 dX12_reads_25 (by decide) ?_
      exact m_iret C w (by exact Eq.symm (((if_neg h_1).trans ((if_neg (Nat.not_le.mpr h_36)).trans rfl)))) dX12_reads_26

def mm_le1 (x : Int32 × mm_M) : Prop := x.1 ≤ 1000
theorem mm_le1_ite {P : Prop} [Decidable P] {a b : Int32 × mm_M} (h1 : P → mm_le1 a) (h2 : ¬ P → mm_le1 b) : mm_le1 (if P then a else b) := by
  split
  · exact h1 ‹_›
  · exact h2 ‹_›
theorem mm_le1_m (M : mm_M) : mm_le1 (-1, M) := by unfold mm_le1; show (-1 : Int32) ≤ 1000; decide
theorem mm_le1_s {n : Nat} {v : Int32} (hn : n ≤ 1000) (hv : v = 0 ∨ v = 16) (M : mm_M) : mm_le1 (nI n - v, M) := by
  unfold mm_le1
  show nI n - v ≤ 1000
  rw [Int32.le_iff_toInt_le]
  rcases hv with rfl | rfl
  · rw [show nI n - 0 = nI n from pk_sub (a := n) (b := 0) (by omega), nI_toInt (by omega)]
    rw [show (1000 : Int32).toInt = 1000 from rfl]
    omega
  · rcases Nat.lt_or_ge n 16 with h | h
    · rw [show (1000 : Int32).toInt = 1000 from rfl]
      have : n = 0 ∨ n = 1 ∨ n = 2 ∨ n = 3 ∨ n = 4 ∨ n = 5 ∨ n = 6 ∨ n = 7 ∨ n = 8 ∨ n = 9 ∨ n = 10 ∨ n = 11 ∨ n = 12 ∨ n = 13 ∨ n = 14 ∨ n = 15 := by omega
      rcases this with h | h | h | h | h | h | h | h | h | h | h | h | h | h | h | h <;> subst h <;> decide
    · rw [show nI n - 16 = nI (n - 16) from pk_sub (a := n) (b := 16) (by omega), nI_toInt (by omega)]
      rw [show (1000 : Int32).toInt = 1000 from rfl]
      omega
theorem mm_nat0 {v : Int32} (h0 : 0 ≤ v) (h1 : v ≤ 1000) : v = nI v.toNatClampNeg ∧ v.toNatClampNeg ≤ 1000 := by
  have h : ¬ f_X12_in v 0 (nI 1000) = 0 := by
    unfold f_X12_in
    rw [if_neg (Int32.not_lt.mpr h0), if_neg (show ¬ nI 1000 < v from Int32.not_lt.mpr h1)]
    decide
  exact g_inN (by decide) h

theorem le_f_X12_reads_B1 (p1 : Nat) (p2 : Nat) (M_4 : mm_M) (hp : p2 ≤ 1000) : mm_le1 (f_X12_reads_B1 p1 p2 M_4) := by
  unfold f_X12_reads_B1
  repeat' (first | with_reducible exact mm_le1_m _ | with_reducible exact mm_le1_s (by omega) (by decide) _ | (with_reducible apply mm_le1_ite <;> intro _) | intro _)

theorem le_f_X12_reads_B2 (p1 : Nat) (p2 : Nat) (M_4 : mm_M) (v_5 : Int32) (hp : p2 ≤ 1000) : mm_le1 (f_X12_reads_B2 p1 p2 M_4 v_5) := by
  unfold f_X12_reads_B2
  repeat' (first | with_reducible exact mm_le1_m _ | with_reducible exact mm_le1_s (by omega) (by decide) _ | (with_reducible refine le_f_X12_reads_B1 _ _ _ ?_; omega) | (with_reducible apply mm_le1_ite <;> intro _) | intro _)

theorem le_f_X12_reads_B3 (p1 : Nat) (p2 : Nat) (M_15 : mm_M) (hp : p2 ≤ 1000) : mm_le1 (f_X12_reads_B3 p1 p2 M_15) := by
  unfold f_X12_reads_B3
  repeat' (first | with_reducible exact mm_le1_m _ | with_reducible exact mm_le1_s (by omega) (by decide) _ | (with_reducible refine le_f_X12_reads_B2 _ _ _ _ ?_; omega) | (with_reducible refine le_f_X12_reads_B1 _ _ _ ?_; omega) | (with_reducible apply mm_le1_ite <;> intro _) | intro _)

theorem le_f_X12_reads_B4 (p1 : Nat) (p2 : Nat) (M_15 : mm_M) (v_16 : Int32) (hp : p2 ≤ 1000) : mm_le1 (f_X12_reads_B4 p1 p2 M_15 v_16) := by
  unfold f_X12_reads_B4
  repeat' (first | with_reducible exact mm_le1_m _ | with_reducible exact mm_le1_s (by omega) (by decide) _ | (with_reducible refine le_f_X12_reads_B3 _ _ _ ?_; omega) | (with_reducible refine le_f_X12_reads_B2 _ _ _ _ ?_; omega) | (with_reducible refine le_f_X12_reads_B1 _ _ _ ?_; omega) | (with_reducible apply mm_le1_ite <;> intro _) | intro _)

theorem le_f_X12_reads_B5 (p1 : Nat) (p2 : Nat) (M_9 : mm_M) (v_10 : Int32) (hp : p2 ≤ 1000) : mm_le1 (f_X12_reads_B5 p1 p2 M_9 v_10) := by
  unfold f_X12_reads_B5
  repeat' (first | with_reducible exact mm_le1_m _ | with_reducible exact mm_le1_s (by omega) (by decide) _ | (with_reducible refine le_f_X12_reads_B4 _ _ _ _ ?_; omega) | (with_reducible refine le_f_X12_reads_B3 _ _ _ ?_; omega) | (with_reducible refine le_f_X12_reads_B2 _ _ _ _ ?_; omega) | (with_reducible refine le_f_X12_reads_B1 _ _ _ ?_; omega) | (with_reducible apply mm_le1_ite <;> intro _) | intro _)

theorem le_f_X12_reads_B6 (p1 : Nat) (p2 : Nat) (M_19 : mm_M) (hp : p2 ≤ 1000) : mm_le1 (f_X12_reads_B6 p1 p2 M_19) := by
  unfold f_X12_reads_B6
  repeat' (first | with_reducible exact mm_le1_m _ | with_reducible exact mm_le1_s (by omega) (by decide) _ | (with_reducible refine le_f_X12_reads_B5 _ _ _ _ ?_; omega) | (with_reducible refine le_f_X12_reads_B4 _ _ _ _ ?_; omega) | (with_reducible refine le_f_X12_reads_B3 _ _ _ ?_; omega) | (with_reducible refine le_f_X12_reads_B2 _ _ _ _ ?_; omega) | (with_reducible refine le_f_X12_reads_B1 _ _ _ ?_; omega) | (with_reducible apply mm_le1_ite <;> intro _) | intro _)

theorem le_f_X12_reads_B7 (p1 : Nat) (p2 : Nat) (M_19 : mm_M) (hp : p2 ≤ 1000) : mm_le1 (f_X12_reads_B7 p1 p2 M_19) := by
  unfold f_X12_reads_B7
  repeat' (first | with_reducible exact mm_le1_m _ | with_reducible exact mm_le1_s (by omega) (by decide) _ | (with_reducible refine le_f_X12_reads_B6 _ _ _ ?_; omega) | (with_reducible refine le_f_X12_reads_B5 _ _ _ _ ?_; omega) | (with_reducible refine le_f_X12_reads_B4 _ _ _ _ ?_; omega) | (with_reducible refine le_f_X12_reads_B3 _ _ _ ?_; omega) | (with_reducible refine le_f_X12_reads_B2 _ _ _ _ ?_; omega) | (with_reducible refine le_f_X12_reads_B1 _ _ _ ?_; omega) | (with_reducible apply mm_le1_ite <;> intro _) | intro _)

theorem le_f_X12_reads_B8 (p1 : Nat) (p2 : Nat) (M_42 : mm_M) (hp : p2 ≤ 1000) : mm_le1 (f_X12_reads_B8 p1 p2 M_42) := by
  unfold f_X12_reads_B8
  repeat' (first | with_reducible exact mm_le1_m _ | with_reducible exact mm_le1_s (by omega) (by decide) _ | (with_reducible refine le_f_X12_reads_B7 _ _ _ ?_; omega) | (with_reducible refine le_f_X12_reads_B6 _ _ _ ?_; omega) | (with_reducible refine le_f_X12_reads_B5 _ _ _ _ ?_; omega) | (with_reducible refine le_f_X12_reads_B4 _ _ _ _ ?_; omega) | (with_reducible refine le_f_X12_reads_B3 _ _ _ ?_; omega) | (with_reducible refine le_f_X12_reads_B2 _ _ _ _ ?_; omega) | (with_reducible refine le_f_X12_reads_B1 _ _ _ ?_; omega) | (with_reducible apply mm_le1_ite <;> intro _) | intro _)

theorem le_f_X12_reads_B9 (p1 : Nat) (p2 : Nat) (M_42 : mm_M) (v_43 : Int32) (hp : p2 ≤ 1000) : mm_le1 (f_X12_reads_B9 p1 p2 M_42 v_43) := by
  unfold f_X12_reads_B9
  repeat' (first | with_reducible exact mm_le1_m _ | with_reducible exact mm_le1_s (by omega) (by decide) _ | (with_reducible refine le_f_X12_reads_B8 _ _ _ ?_; omega) | (with_reducible refine le_f_X12_reads_B7 _ _ _ ?_; omega) | (with_reducible refine le_f_X12_reads_B6 _ _ _ ?_; omega) | (with_reducible refine le_f_X12_reads_B5 _ _ _ _ ?_; omega) | (with_reducible refine le_f_X12_reads_B4 _ _ _ _ ?_; omega) | (with_reducible refine le_f_X12_reads_B3 _ _ _ ?_; omega) | (with_reducible refine le_f_X12_reads_B2 _ _ _ _ ?_; omega) | (with_reducible refine le_f_X12_reads_B1 _ _ _ ?_; omega) | (with_reducible apply mm_le1_ite <;> intro _) | intro _)

theorem le_f_X12_reads_B10 (p1 : Nat) (p2 : Nat) (M_53 : mm_M) (hp : p2 ≤ 1000) : mm_le1 (f_X12_reads_B10 p1 p2 M_53) := by
  unfold f_X12_reads_B10
  repeat' (first | with_reducible exact mm_le1_m _ | with_reducible exact mm_le1_s (by omega) (by decide) _ | (with_reducible refine le_f_X12_reads_B9 _ _ _ _ ?_; omega) | (with_reducible refine le_f_X12_reads_B8 _ _ _ ?_; omega) | (with_reducible refine le_f_X12_reads_B7 _ _ _ ?_; omega) | (with_reducible refine le_f_X12_reads_B6 _ _ _ ?_; omega) | (with_reducible refine le_f_X12_reads_B5 _ _ _ _ ?_; omega) | (with_reducible refine le_f_X12_reads_B4 _ _ _ _ ?_; omega) | (with_reducible refine le_f_X12_reads_B3 _ _ _ ?_; omega) | (with_reducible refine le_f_X12_reads_B2 _ _ _ _ ?_; omega) | (with_reducible refine le_f_X12_reads_B1 _ _ _ ?_; omega) | (with_reducible apply mm_le1_ite <;> intro _) | intro _)

theorem le_f_X12_reads_B11 (p1 : Nat) (p2 : Nat) (M_53 : mm_M) (v_54 : Int32) (hp : p2 ≤ 1000) : mm_le1 (f_X12_reads_B11 p1 p2 M_53 v_54) := by
  unfold f_X12_reads_B11
  repeat' (first | with_reducible exact mm_le1_m _ | with_reducible exact mm_le1_s (by omega) (by decide) _ | (with_reducible refine le_f_X12_reads_B10 _ _ _ ?_; omega) | (with_reducible refine le_f_X12_reads_B9 _ _ _ _ ?_; omega) | (with_reducible refine le_f_X12_reads_B8 _ _ _ ?_; omega) | (with_reducible refine le_f_X12_reads_B7 _ _ _ ?_; omega) | (with_reducible refine le_f_X12_reads_B6 _ _ _ ?_; omega) | (with_reducible refine le_f_X12_reads_B5 _ _ _ _ ?_; omega) | (with_reducible refine le_f_X12_reads_B4 _ _ _ _ ?_; omega) | (with_reducible refine le_f_X12_reads_B3 _ _ _ ?_; omega) | (with_reducible refine le_f_X12_reads_B2 _ _ _ _ ?_; omega) | (with_reducible refine le_f_X12_reads_B1 _ _ _ ?_; omega) | (with_reducible apply mm_le1_ite <;> intro _) | intro _)

theorem le_f_X12_reads_B12 (p1 : Nat) (p2 : Nat) (M_47 : mm_M) (v_48 : Int32) (hp : p2 ≤ 1000) : mm_le1 (f_X12_reads_B12 p1 p2 M_47 v_48) := by
  unfold f_X12_reads_B12
  repeat' (first | with_reducible exact mm_le1_m _ | with_reducible exact mm_le1_s (by omega) (by decide) _ | (with_reducible refine le_f_X12_reads_B11 _ _ _ _ ?_; omega) | (with_reducible refine le_f_X12_reads_B10 _ _ _ ?_; omega) | (with_reducible refine le_f_X12_reads_B9 _ _ _ _ ?_; omega) | (with_reducible refine le_f_X12_reads_B8 _ _ _ ?_; omega) | (with_reducible refine le_f_X12_reads_B7 _ _ _ ?_; omega) | (with_reducible refine le_f_X12_reads_B6 _ _ _ ?_; omega) | (with_reducible refine le_f_X12_reads_B5 _ _ _ _ ?_; omega) | (with_reducible refine le_f_X12_reads_B4 _ _ _ _ ?_; omega) | (with_reducible refine le_f_X12_reads_B3 _ _ _ ?_; omega) | (with_reducible refine le_f_X12_reads_B2 _ _ _ _ ?_; omega) | (with_reducible refine le_f_X12_reads_B1 _ _ _ ?_; omega) | (with_reducible apply mm_le1_ite <;> intro _) | intro _)

theorem le_f_X12_reads_B13 (p1 : Nat) (p2 : Nat) (M_39 : mm_M) (hp : p2 ≤ 1000) : mm_le1 (f_X12_reads_B13 p1 p2 M_39) := by
  unfold f_X12_reads_B13
  repeat' (first | with_reducible exact mm_le1_m _ | with_reducible exact mm_le1_s (by omega) (by decide) _ | (with_reducible refine le_f_X12_reads_B12 _ _ _ _ ?_; omega) | (with_reducible refine le_f_X12_reads_B11 _ _ _ _ ?_; omega) | (with_reducible refine le_f_X12_reads_B10 _ _ _ ?_; omega) | (with_reducible refine le_f_X12_reads_B9 _ _ _ _ ?_; omega) | (with_reducible refine le_f_X12_reads_B8 _ _ _ ?_; omega) | (with_reducible refine le_f_X12_reads_B7 _ _ _ ?_; omega) | (with_reducible refine le_f_X12_reads_B6 _ _ _ ?_; omega) | (with_reducible refine le_f_X12_reads_B5 _ _ _ _ ?_; omega) | (with_reducible refine le_f_X12_reads_B4 _ _ _ _ ?_; omega) | (with_reducible refine le_f_X12_reads_B3 _ _ _ ?_; omega) | (with_reducible refine le_f_X12_reads_B2 _ _ _ _ ?_; omega) | (with_reducible refine le_f_X12_reads_B1 _ _ _ ?_; omega) | (with_reducible apply mm_le1_ite <;> intro _) | intro _)

theorem le_f_X12_reads_B14 (p1 : Nat) (p2 : Nat) (M_39 : mm_M) (hp : p2 ≤ 1000) : mm_le1 (f_X12_reads_B14 p1 p2 M_39) := by
  unfold f_X12_reads_B14
  repeat' (first | with_reducible exact mm_le1_m _ | with_reducible exact mm_le1_s (by omega) (by decide) _ | (with_reducible refine le_f_X12_reads_B13 _ _ _ ?_; omega) | (with_reducible refine le_f_X12_reads_B12 _ _ _ _ ?_; omega) | (with_reducible refine le_f_X12_reads_B11 _ _ _ _ ?_; omega) | (with_reducible refine le_f_X12_reads_B10 _ _ _ ?_; omega) | (with_reducible refine le_f_X12_reads_B9 _ _ _ _ ?_; omega) | (with_reducible refine le_f_X12_reads_B8 _ _ _ ?_; omega) | (with_reducible refine le_f_X12_reads_B7 _ _ _ ?_; omega) | (with_reducible refine le_f_X12_reads_B6 _ _ _ ?_; omega) | (with_reducible refine le_f_X12_reads_B5 _ _ _ _ ?_; omega) | (with_reducible refine le_f_X12_reads_B4 _ _ _ _ ?_; omega) | (with_reducible refine le_f_X12_reads_B3 _ _ _ ?_; omega) | (with_reducible refine le_f_X12_reads_B2 _ _ _ _ ?_; omega) | (with_reducible refine le_f_X12_reads_B1 _ _ _ ?_; omega) | (with_reducible apply mm_le1_ite <;> intro _) | intro _)

theorem le_f_X12_reads_B15 (p1 : Nat) (p2 : Nat) (M_39 : mm_M) (hp : p2 ≤ 1000) : mm_le1 (f_X12_reads_B15 p1 p2 M_39) := by
  unfold f_X12_reads_B15
  repeat' (first | with_reducible exact mm_le1_m _ | with_reducible exact mm_le1_s (by omega) (by decide) _ | (with_reducible refine le_f_X12_reads_B14 _ _ _ ?_; omega) | (with_reducible refine le_f_X12_reads_B13 _ _ _ ?_; omega) | (with_reducible refine le_f_X12_reads_B12 _ _ _ _ ?_; omega) | (with_reducible refine le_f_X12_reads_B11 _ _ _ _ ?_; omega) | (with_reducible refine le_f_X12_reads_B10 _ _ _ ?_; omega) | (with_reducible refine le_f_X12_reads_B9 _ _ _ _ ?_; omega) | (with_reducible refine le_f_X12_reads_B8 _ _ _ ?_; omega) | (with_reducible refine le_f_X12_reads_B7 _ _ _ ?_; omega) | (with_reducible refine le_f_X12_reads_B6 _ _ _ ?_; omega) | (with_reducible refine le_f_X12_reads_B5 _ _ _ _ ?_; omega) | (with_reducible refine le_f_X12_reads_B4 _ _ _ _ ?_; omega) | (with_reducible refine le_f_X12_reads_B3 _ _ _ ?_; omega) | (with_reducible refine le_f_X12_reads_B2 _ _ _ _ ?_; omega) | (with_reducible refine le_f_X12_reads_B1 _ _ _ ?_; omega) | (with_reducible apply mm_le1_ite <;> intro _) | intro _)

theorem le_f_X12_reads (p1 : Nat) (p2 : Nat) (M : mm_M) (hp : p2 ≤ 1000) : mm_le1 (f_X12_reads p1 p2 M) := by
  unfold f_X12_reads
  repeat' (first | with_reducible exact mm_le1_m _ | with_reducible exact mm_le1_s (by omega) (by decide) _ | (with_reducible refine le_f_X12_reads_B15 _ _ _ ?_; omega) | (with_reducible refine le_f_X12_reads_B14 _ _ _ ?_; omega) | (with_reducible refine le_f_X12_reads_B13 _ _ _ ?_; omega) | (with_reducible refine le_f_X12_reads_B12 _ _ _ _ ?_; omega) | (with_reducible refine le_f_X12_reads_B11 _ _ _ _ ?_; omega) | (with_reducible refine le_f_X12_reads_B10 _ _ _ ?_; omega) | (with_reducible refine le_f_X12_reads_B9 _ _ _ _ ?_; omega) | (with_reducible refine le_f_X12_reads_B8 _ _ _ ?_; omega) | (with_reducible refine le_f_X12_reads_B7 _ _ _ ?_; omega) | (with_reducible refine le_f_X12_reads_B6 _ _ _ ?_; omega) | (with_reducible refine le_f_X12_reads_B5 _ _ _ _ ?_; omega) | (with_reducible refine le_f_X12_reads_B4 _ _ _ _ ?_; omega) | (with_reducible refine le_f_X12_reads_B3 _ _ _ ?_; omega) | (with_reducible refine le_f_X12_reads_B2 _ _ _ _ ?_; omega) | (with_reducible refine le_f_X12_reads_B1 _ _ _ ?_; omega) | (with_reducible apply mm_le1_ite <;> intro _) | intro _)

def f_X12_read_B1 (q1 : Nat) (x3_10 : Int32) (x4_11 : Int32) (x5_12 : Int32) (x6_13 : Int64) (M_14 : mm_M) (v_15 : Int32) : Int32 × mm_M :=
  if (0 : Int32) ≤ (v_15) then (let q8 := (v_15).toNatClampNeg
  let M_17 := f_X12_goesOn q1 M_14
  let v_19 := (f_X12_tells 120 q8 M_17).1
  let M_18 := (f_X12_tells 120 q8 M_17).2
  ((v_19), M_18)) else (let M_20 := f_X12_copy 158 0 157 (352 * q1) 352 M_14
  let M_21 := mm_w M_20 161 q1 (x3_10)
  let M_22 := mm_w M_21 162 q1 (x4_11)
  let M_23 := mm_w M_22 163 q1 (x5_12)
  let M_24 := mm_wl M_23 166 q1 (x6_13)
  let M_25 := mm_w M_24 165 q1 ((M_24.1 165 q1) + (1 : Int32))
  ((-1 : Int32), M_25))
theorem w_f_X12_read_B1 (q1 : Nat) (x3_10 : Int32) (x4_11 : Int32) (x5_12 : Int32) (x6_13 : Int64) (M_14 : mm_M) (v_15 : Int32) : mm_fr2 [164, 130, 117, 128, 129, 126, 127, 125, 131, 169, 172, 170, 171, 157, 121, 161, 162, 163, 166, 165] M_14 (f_X12_read_B1 q1 x3_10 x4_11 x5_12 x6_13 M_14 v_15) := by
  unfold f_X12_read_B1
  exact (mm_fr_ite2 (fun _ => ((w_f_X12_tells _ _ _).m.on (by simp) ((w_f_X12_goesOn _ _).on (by simp) (mm_fr_refl _ _))).b) (fun _ => (mm_fr_w (by simp) (mm_fr_wl (by simp) (mm_fr_w (by simp) (mm_fr_w (by simp) (mm_fr_w (by simp) ((w_f_X12_copy _ _ _ _ _ _).on (by simp) (mm_fr_refl _ _))))))).b))
def f_X12_read_B2 (q1 : Nat) (q2 : Nat) (M_5 : mm_M) : Int32 × mm_M :=
  if (f_X12_isToWrite q1 M_5) = (0 : Int32) then (let M_9 := f_X12_copy 157 (352 * q1) 158 0 352 M_5
  let x3_10 := M_9.1 161 q1
  let x4_11 := M_9.1 162 q1
  let x5_12 := M_9.1 163 q1
  let x6_13 := M_9.2 166 q1
  let v_15 := (f_X12_reads q1 q2 M_9).1
  let M_14 := (f_X12_reads q1 q2 M_9).2
  f_X12_read_B1 q1 x3_10 x4_11 x5_12 x6_13 M_14 v_15) else (((-1 : Int32), M_5))
theorem w_f_X12_read_B2 (q1 : Nat) (q2 : Nat) (M_5 : mm_M) : mm_fr2 [158, 147, 149, 148, 155, 151, 150, 152, 153, 156, 154, 120, 166, 117, 128, 129, 126, 127, 125, 157, 163, 144, 132, 134, 133, 136, 140, 142, 135, 143, 139, 145, 141, 137, 138, 130, 131, 169, 172, 170, 171, 161, 162, 164, 121, 165] M_5 (f_X12_read_B2 q1 q2 M_5) := by
  unfold f_X12_read_B2
  exact (mm_fr_ite2 (fun _ => ((w_f_X12_read_B1 _ _ _ _ _ _ _).on (by simp) ((w_f_X12_reads _ _ _).m.on (by simp) ((w_f_X12_copy _ _ _ _ _ _).on (by simp) (mm_fr_refl _ _))))) (fun _ => (mm_fr_refl _ _).b))
def f_X12_read_B3 (q1 : Nat) (q2 : Nat) (M_5 : mm_M) : Int32 × mm_M :=
  if (M_5.1 164 q1) = (3 : Int32) then (((-1 : Int32), M_5)) else (f_X12_read_B2 q1 q2 M_5)
theorem w_f_X12_read_B3 (q1 : Nat) (q2 : Nat) (M_5 : mm_M) : mm_fr2 [158, 147, 149, 148, 155, 151, 150, 152, 153, 156, 154, 120, 166, 117, 128, 129, 126, 127, 125, 157, 163, 144, 132, 134, 133, 136, 140, 142, 135, 143, 139, 145, 141, 137, 138, 130, 131, 169, 172, 170, 171, 161, 162, 164, 121, 165] M_5 (f_X12_read_B3 q1 q2 M_5) := by
  unfold f_X12_read_B3
  exact (mm_fr_ite2 (fun _ => (mm_fr_refl _ _).b) (fun _ => ((w_f_X12_read_B2 _ _ _).on (by simp) (mm_fr_refl _ _))))
def f_X12_read (v1 : Int32) (v2 : Int32) (ts : Nat) (M : mm_M) : Int32 × mm_M :=
  if ¬ f_X12_isSession v1 M = 0 ∧ ¬ f_X12_in v2 0 (nI ts) = 0 then (let q1 := (v1).toNatClampNeg
  let q2 := (v2).toNatClampNeg
  let M_5 := f_X12_takes ts M
  f_X12_read_B3 q1 q2 M_5) else (if (f_X12_isSession (v1) M) = (0 : Int32) then (((-2 : Int32), M)) else (((-2 : Int32), M)))
theorem w_f_X12_read (v1 : Int32) (v2 : Int32) (ts : Nat) (M : mm_M) : mm_fr2 [119, 117, 158, 147, 149, 148, 155, 151, 150, 152, 153, 156, 154, 120, 166, 128, 129, 126, 127, 125, 157, 163, 144, 132, 134, 133, 136, 140, 142, 135, 143, 139, 145, 141, 137, 138, 130, 131, 169, 172, 170, 171, 161, 162, 164, 121, 165] M (f_X12_read v1 v2 ts M) := by
  unfold f_X12_read
  exact (mm_fr_ite2 (fun _ => ((w_f_X12_read_B3 _ _ _).on (by simp) ((w_f_X12_takes _ _).on (by simp) (mm_fr_refl _ _)))) (fun _ => (mm_fr_ite2 (fun _ => (mm_fr_refl _ _).b) (fun _ => (mm_fr_refl _ _).b))))
set_option maxHeartbeats 4000000 in
set_option maxRecDepth 100000 in
theorem c_X12_read (l : Launch) (D : va_G) (b0 : Nat) (r : Nat → Nat) (M : mm_M) (v1 : Int32) (v2 : Int32) (ts : Nat) (hts : ts ≤ 1000) (h1 : M.1 117 4 = nI ts) : mm_Mi l yX12_read cX12_read 9 .int 8 185 D b0 r [.ref (r (117)), .int (v1), .int (v2)] M (fun v M' => (v, M') = f_X12_read v1 v2 ts M) := by
  refine mm_enter (cc := cX12_read) (nL := 9) (ret := (some .int)) (by decide) (Nat.le_of_ble_eq_true rfl) ?_
  intro p e s m args below meth c C w ls hl
  have hl : lv_has ls 9 [(0, .ref (r (117))), (1, .int (v1)), (2, .int (v2))] := hl
  by_cases hS : ¬ f_X12_isSession v1 M = 0 ∧ ¬ f_X12_in v2 0 (nI ts) = 0
  · obtain ⟨q1, eq1⟩ : ∃ zz, zz = (v1).toNatClampNeg := ⟨_, rfl⟩
    obtain ⟨hvq1, hbq1⟩ : v1 = nI q1 ∧ q1 < 4 := by rw [eq1]; exact g_isSession2 hS.1
    rw [hvq1] at hl
    obtain ⟨q2, eq2⟩ : ∃ zz, zz = (v2).toNatClampNeg := ⟨_, rfl⟩
    obtain ⟨hvq2, hbq2⟩ : v2 = nI q2 ∧ q2 ≤ ts := by rw [eq2]; exact g_inN (by omega) hS.2
    rw [hvq2] at hl
    have hTq1 : ¬ f_X12_isSession (nI q1) M = 0 := by rw [← hvq1]; exact hS.1
    have hTq2 : ¬ f_X12_in (nI q2) 0 (nI ts) = 0 := by rw [← hvq2]; exact hS.2
    refine lv_aload_n C.1 C.2.1 dX12_read_0 rfl (lv_at hl 0 rfl) ?_
    refine lv_iload_n C.1 C.2.1 dX12_read_1 rfl (lv_at hl 1 rfl) ?_
    refine m_cvi C w hl cvX12_421 (k := 117) (by decide) rfl (q := (RX12, TX12, 58)) rfl rfl (As := [.int (nI (q1))]) (rest := []) (c_X12_isSession l D b0 r M (nI (q1)) ) rfl rfl (Nat.le_of_ble_eq_true rfl) ⟨Nat.le_of_ble_eq_true rfl, Nat.le_of_ble_eq_true rfl⟩ ⟨Nat.zero_le _, Nat.zero_le _⟩ dX12_read_2 (fun v_1 M9 H locs e9 w => ?_)
    obtain ⟨ev_1, e9⟩ := e9
    rw [e9] at w
    subst ev_1
    refine lv_if_eq (tgt := 20) C.1 C.2.1 dX12_read_5 (by decide) (fun h_2 => absurd h_2 hTq1) (fun _ => ?_)
    refine lv_iload_n C.1 C.2.1 dX12_read_8 rfl (lv_at hl 2 rfl) ?_
    refine lv_iconst (v := 0) C.1 C.2.1 dX12_read_9 (by decide) ?_
    refine lv_aload_n C.1 C.2.1 dX12_read_10 rfl (lv_at hl 0 rfl) ?_
    refine m_get C w (k := 117) (j := 4) (v := .int (M.1 117 4)) flX12_364 (by decide) rfl rfl dX12_read_11 ?_
    refine m_i (y := nI (ts)) h1 ?_
    refine m_csi C w hl csX12_373 (As := [.int (nI (q2)), .int 0, .int (nI (ts))]) (rest := []) (c_X12_in l D b0 r M (nI (q2)) (0 : Int32) (nI (ts)) ) rfl rfl (Nat.le_of_ble_eq_true rfl) ⟨Nat.le_of_ble_eq_true rfl, Nat.le_of_ble_eq_true rfl⟩ ⟨Nat.zero_le _, Nat.zero_le _⟩ dX12_read_14 (fun v_3 M9 H locs e9 w => ?_)
    obtain ⟨ev_3, e9⟩ := e9
    rw [e9] at w
    subst ev_3
    refine lv_if_ne (tgt := 23) C.1 C.2.1 dX12_read_17 (by decide) (fun _ => ?_) (fun h_4 => absurd h_4 hTq2)
    refine lv_aload_n C.1 C.2.1 dX12_read_23 rfl (lv_at hl 0 rfl) ?_
    refine m_cvv C w hl cvX12_381 (k := 117) (by decide) rfl (q := (RX12, TX12, 58)) rfl rfl (As := []) (rest := []) (c_X12_takes l D b0 r M ts (by omega) h1) rfl rfl (Nat.le_of_ble_eq_true rfl) ⟨Nat.le_of_ble_eq_true rfl, Nat.le_of_ble_eq_true rfl⟩ ⟨Nat.zero_le _, Nat.zero_le _⟩ dX12_read_24 (fun M_5 H locs eM_5 w => ?_)
    refine lv_aload_n C.1 C.2.1 dX12_read_27 rfl (lv_at hl 0 rfl) ?_
    refine m_get C w (k := 117) (j := 49) (v := .ref (r (164))) flX12_223 (by decide) rfl rfl dX12_read_28 ?_
    refine lv_iload_n C.1 C.2.1 dX12_read_31 rfl (lv_at hl 1 rfl) ?_
    refine m_iald C w (k := 164) (i := q1) (n := 4) (wr := true) (by decide) rfl (by omega) (by decide) dX12_read_32 ?_
    refine lv_iconst (v := 3) C.1 C.2.1 dX12_read_33 (by decide) ?_
    refine lv_icmp_eq (tgt := 45) C.1 C.2.1 dX12_read_34 (by decide) (fun h_6 => ?_) (fun h_6 => ?_)
    · refine lv_iconst (v := (-1)) C.1 C.2.1 dX12_read_45 (by decide) ?_
      exact m_iret C w (by subst eq1 eq2 eM_5; exact Eq.symm (((if_pos hS).trans ((if_pos h_6).trans rfl)))) dX12_read_46
    · refine lv_aload_n C.1 C.2.1 dX12_read_37 rfl (lv_at hl 0 rfl) ?_
      refine lv_iload_n C.1 C.2.1 dX12_read_38 rfl (lv_at hl 1 rfl) ?_
      refine m_cvi C w hl cvX12_424 (k := 117) (by decide) rfl (q := (RX12, TX12, 58)) rfl rfl (As := [.int (nI (q1))]) (rest := []) (c_X12_isToWrite l D b0 r M_5 q1 (by omega)) rfl rfl (Nat.le_of_ble_eq_true rfl) ⟨Nat.le_of_ble_eq_true rfl, Nat.le_of_ble_eq_true rfl⟩ ⟨Nat.zero_le _, Nat.zero_le _⟩ dX12_read_39 (fun v_7 M9 H locs e9 w => ?_)
      obtain ⟨ev_7, e9⟩ := e9
      rw [e9] at w
      subst ev_7
      refine lv_if_eq (tgt := 47) C.1 C.2.1 dX12_read_42 (by decide) (fun h_8 => ?_) (fun h_8 => ?_)
      · refine lv_aload_n C.1 C.2.1 dX12_read_47 rfl (lv_at hl 0 rfl) ?_
        refine m_get C w (k := 117) (j := 42) (v := .ref (r (157))) flX12_201 (by decide) rfl rfl dX12_read_48 ?_
        refine lv_sipush (v := 352) C.1 C.2.1 dX12_read_51 (by decide) ?_
        refine lv_iload_n C.1 C.2.1 dX12_read_54 rfl (lv_at hl 1 rfl) ?_
        refine lv_imul C.1 C.2.1 dX12_read_55 ?_
        refine m_i (y := nI (352 * q1)) (pk_mul 352 q1) ?_
        refine lv_aload_n C.1 C.2.1 dX12_read_56 rfl (lv_at hl 0 rfl) ?_
        refine m_get C w (k := 117) (j := 43) (v := .ref (r (158))) flX12_204 (by decide) rfl rfl dX12_read_57 ?_
        refine lv_iconst (v := 0) C.1 C.2.1 dX12_read_60 (by decide) ?_
        refine lv_sipush (v := 352) C.1 C.2.1 dX12_read_61 (by decide) ?_
        refine m_csv C w hl csX12_265 (As := [.ref (r (157)), .int (nI (352 * q1)), .ref (r (158)), .int 0, .int 352]) (rest := []) (c_X12_copy l D b0 r M_5 157 (352 * q1) 158 0 352 (by decide) rfl (by decide) (by omega) (by decide) rfl (by decide) (by omega) (by omega) (by omega)) rfl rfl (Nat.le_of_ble_eq_true rfl) ⟨Nat.le_of_ble_eq_true rfl, Nat.le_of_ble_eq_true rfl⟩ ⟨Nat.zero_le _, Nat.zero_le _⟩ dX12_read_64 (fun M_9 H locs eM_9 w => ?_)
        refine lv_aload_n C.1 C.2.1 dX12_read_67 rfl (lv_at hl 0 rfl) ?_
        refine m_get C w (k := 117) (j := 46) (v := .ref (r (161))) flX12_214 (by decide) rfl rfl dX12_read_68 ?_
        refine lv_iload_n C.1 C.2.1 dX12_read_71 rfl (lv_at hl 1 rfl) ?_
        refine m_zald C w (k := 161) (i := q1) (n := 4) (wr := true) (by decide) rfl (by omega) (by decide) dX12_read_72 ?_
        have hbA := w.1.bool (k := 161) (j := q1) (by decide) rfl (by omega)
        refine lv_topi (fun x3_10 ex3_10 => ?_)
        refine lv_istore_n (lv' := [(3, .int (x3_10)), (0, .ref (r (117))), (1, .int (nI (q1))), (2, .int (nI (q2)))]) C.1 C.2.1 dX12_read_73 rfl hl (by decide) rfl (fun ls hl => ?_)
        refine lv_aload_n C.1 C.2.1 dX12_read_74 rfl (lv_at hl 1 rfl) ?_
        refine m_get C w (k := 117) (j := 47) (v := .ref (r (162))) flX12_217 (by decide) rfl rfl dX12_read_75 ?_
        refine lv_iload_n C.1 C.2.1 dX12_read_78 rfl (lv_at hl 2 rfl) ?_
        refine m_zald C w (k := 162) (i := q1) (n := 4) (wr := true) (by decide) rfl (by omega) (by decide) dX12_read_79 ?_
        have hbB := w.1.bool (k := 162) (j := q1) (by decide) rfl (by omega)
        refine lv_topi (fun x4_11 ex4_11 => ?_)
        refine lv_istore (lv' := [(4, .int (x4_11)), (3, .int (x3_10)), (0, .ref (r (117))), (1, .int (nI (q1))), (2, .int (nI (q2)))]) C.1 C.2.1 dX12_read_80 hl (by decide) rfl (fun ls hl => ?_)
        refine lv_aload_n C.1 C.2.1 dX12_read_82 rfl (lv_at hl 2 rfl) ?_
        refine m_get C w (k := 117) (j := 48) (v := .ref (r (163))) flX12_220 (by decide) rfl rfl dX12_read_83 ?_
        refine lv_iload_n C.1 C.2.1 dX12_read_86 rfl (lv_at hl 3 rfl) ?_
        refine m_zald C w (k := 163) (i := q1) (n := 4) (wr := true) (by decide) rfl (by omega) (by decide) dX12_read_87 ?_
        have hbC := w.1.bool (k := 163) (j := q1) (by decide) rfl (by omega)
        refine lv_topi (fun x5_12 ex5_12 => ?_)
        refine lv_istore (lv' := [(5, .int (x5_12)), (4, .int (x4_11)), (3, .int (x3_10)), (0, .ref (r (117))), (1, .int (nI (q1))), (2, .int (nI (q2)))]) C.1 C.2.1 dX12_read_88 hl (by decide) rfl (fun ls hl => ?_)
        refine lv_aload_n C.1 C.2.1 dX12_read_90 rfl (lv_at hl 3 rfl) ?_
        refine m_get C w (k := 117) (j := 51) (v := .ref (r (166))) flX12_229 (by decide) rfl rfl dX12_read_91 ?_
        refine lv_iload_n C.1 C.2.1 dX12_read_94 rfl (lv_at hl 4 rfl) ?_
        refine m_lald C w (k := 166) (i := q1) (n := 4) (wr := true) (by decide) rfl (by omega) (by decide) dX12_read_95 ?_
        refine lv_topl (fun x6_13 ex6_13 => ?_)
        refine lv_lstore (lv' := [(6, .long (x6_13)), (5, .int (x5_12)), (4, .int (x4_11)), (3, .int (x3_10)), (0, .ref (r (117))), (1, .int (nI (q1))), (2, .int (nI (q2)))]) C.1 C.2.1 dX12_read_96 hl (by decide) rfl (fun ls hl => ?_)
        refine lv_aload_n C.1 C.2.1 dX12_read_98 rfl (lv_at hl 4 rfl) ?_
        refine lv_iload_n C.1 C.2.1 dX12_read_99 rfl (lv_at hl 5 rfl) ?_
        refine lv_iload_n C.1 C.2.1 dX12_read_100 rfl (lv_at hl 6 rfl) ?_
        refine m_cvi C w hl cvX12_445 (k := 117) (by decide) rfl (q := (RX12, TX12, 58)) rfl rfl (As := [.int (nI (q1)), .int (nI (q2))]) (rest := []) (c_X12_reads l D b0 r M_9 q1 q2 (by omega) (by omega)) rfl rfl (Nat.le_of_ble_eq_true rfl) ⟨Nat.le_of_ble_eq_true rfl, Nat.le_of_ble_eq_true rfl⟩ ⟨Nat.zero_le _, Nat.zero_le _⟩ dX12_read_101 (fun v_15 M_14 H locs e9 w => ?_)
        obtain ⟨ev_15, eM_14⟩ : v_15 = (f_X12_reads q1 q2 M_9).1 ∧ M_14 = (f_X12_reads q1 q2 M_9).2 := ⟨congrArg Prod.fst e9, congrArg Prod.snd e9⟩
        clear e9
        refine lv_istore (lv' := [(8, .int (v_15)), (6, .long (x6_13)), (5, .int (x5_12)), (4, .int (x4_11)), (3, .int (x3_10)), (0, .ref (r (117))), (1, .int (nI (q1))), (2, .int (nI (q2)))]) C.1 C.2.1 dX12_read_104 hl (by decide) rfl (fun ls hl => ?_)
        refine lv_iload C.1 C.2.1 dX12_read_106 (lv_at hl 0 rfl) ?_
        refine lv_if_ge (tgt := 174) C.1 C.2.1 dX12_read_108 (by decide) (fun h_16 => ?_) (fun h_16 => ?_)
        · obtain ⟨q8, eq8⟩ : ∃ zz, zz = (v_15).toNatClampNeg := ⟨_, rfl⟩
          obtain ⟨hvq8, hbq8⟩ : v_15 = nI q8 ∧ q8 ≤ 1000 := by rw [eq8]; exact mm_nat0 h_16 (by rw [ev_15]; exact le_f_X12_reads _ _ _ (by omega))
          rw [hvq8] at hl
          refine lv_aload_n C.1 C.2.1 dX12_read_174 rfl (lv_at hl 5 rfl) ?_
          refine lv_iload_n C.1 C.2.1 dX12_read_175 rfl (lv_at hl 6 rfl) ?_
          refine m_cvv C w hl cvX12_435 (k := 117) (by decide) rfl (q := (RX12, TX12, 58)) rfl rfl (As := [.int (nI (q1))]) (rest := []) (c_X12_goesOn l D b0 r M_14 q1 (by omega)) rfl rfl (Nat.le_of_ble_eq_true rfl) ⟨Nat.le_of_ble_eq_true rfl, Nat.le_of_ble_eq_true rfl⟩ ⟨Nat.zero_le _, Nat.zero_le _⟩ dX12_read_176 (fun M_17 H locs eM_17 w => ?_)
          refine lv_aload_n C.1 C.2.1 dX12_read_179 rfl (lv_at hl 5 rfl) ?_
          refine lv_aload_n C.1 C.2.1 dX12_read_180 rfl (lv_at hl 5 rfl) ?_
          refine m_get C w (k := 117) (j := 2) (v := .ref (r (120))) flX12_16 (by decide) rfl rfl dX12_read_181 ?_
          refine lv_iload C.1 C.2.1 dX12_read_184 (lv_at hl 0 rfl) ?_
          refine m_cvi C w hl cvX12_388 (k := 117) (by decide) rfl (q := (RX12, TX12, 58)) rfl rfl (As := [.ref (r (120)), .int (nI (q8))]) (rest := []) (c_X12_tells l D b0 r M_17 120 q8 (by decide) rfl (by decide) (by omega) (by omega) (by omega)) rfl rfl (Nat.le_of_ble_eq_true rfl) ⟨Nat.le_of_ble_eq_true rfl, Nat.le_of_ble_eq_true rfl⟩ ⟨Nat.zero_le _, Nat.zero_le _⟩ dX12_read_186 (fun v_19 M_18 H locs e9 w => ?_)
          obtain ⟨ev_19, eM_18⟩ : v_19 = (f_X12_tells 120 q8 M_17).1 ∧ M_18 = (f_X12_tells 120 q8 M_17).2 := ⟨congrArg Prod.fst e9, congrArg Prod.snd e9⟩
          clear e9
          exact m_iret C w (by subst eq1 eq2 eM_5 eM_9 ex3_10 ex4_11 ex5_12 ex6_13 ev_15 eM_14 eq8 eM_17 ev_19 eM_18; exact Eq.symm (((if_pos hS).trans ((if_neg h_6).trans ((if_pos h_8).trans ((if_pos h_16).trans rfl)))))) dX12_read_189
        · refine lv_aload_n C.1 C.2.1 dX12_read_111 rfl (lv_at hl 5 rfl) ?_
          refine m_get C w (k := 117) (j := 43) (v := .ref (r (158))) flX12_204 (by decide) rfl rfl dX12_read_112 ?_
          refine lv_iconst (v := 0) C.1 C.2.1 dX12_read_115 (by decide) ?_
          refine lv_aload_n C.1 C.2.1 dX12_read_116 rfl (lv_at hl 5 rfl) ?_
          refine m_get C w (k := 117) (j := 42) (v := .ref (r (157))) flX12_201 (by decide) rfl rfl dX12_read_117 ?_
          refine lv_sipush (v := 352) C.1 C.2.1 dX12_read_120 (by decide) ?_
          refine lv_iload_n C.1 C.2.1 dX12_read_123 rfl (lv_at hl 6 rfl) ?_
          refine lv_imul C.1 C.2.1 dX12_read_124 ?_
          refine m_i (y := nI (352 * q1)) (pk_mul 352 q1) ?_
          refine lv_sipush (v := 352) C.1 C.2.1 dX12_read_125 (by decide) ?_
          refine m_csv C w hl csX12_265 (As := [.ref (r (158)), .int 0, .ref (r (157)), .int (nI (352 * q1)), .int 352]) (rest := []) (c_X12_copy l D b0 r M_14 158 0 157 (352 * q1) 352 (by decide) rfl (by decide) (by omega) (by decide) rfl (by decide) (by omega) (by omega) (by omega)) rfl rfl (Nat.le_of_ble_eq_true rfl) ⟨Nat.le_of_ble_eq_true rfl, Nat.le_of_ble_eq_true rfl⟩ ⟨Nat.zero_le _, Nat.zero_le _⟩ dX12_read_128 (fun M_20 H locs eM_20 w => ?_)
          refine lv_aload_n C.1 C.2.1 dX12_read_131 rfl (lv_at hl 5 rfl) ?_
          refine m_get C w (k := 117) (j := 46) (v := .ref (r (161))) flX12_214 (by decide) rfl rfl dX12_read_132 ?_
          refine lv_iload_n C.1 C.2.1 dX12_read_135 rfl (lv_at hl 6 rfl) ?_
          refine lv_iload_n C.1 C.2.1 dX12_read_136 rfl (lv_at hl 4 rfl) ?_
          refine m_zast C w (k := 161) (i := q1) (n := 4) (x := (x3_10)) (by decide) rfl (by omega) (by decide) (by rw [ex3_10]; exact hbA) dX12_read_137 (fun H locs w => ?_)
          obtain ⟨M_21, eM_21⟩ : ∃ zz, zz = mm_w M_20 161 q1 (x3_10) := ⟨_, rfl⟩
          rw [← eM_21] at w
          refine lv_aload_n C.1 C.2.1 dX12_read_138 rfl (lv_at hl 5 rfl) ?_
          refine m_get C w (k := 117) (j := 47) (v := .ref (r (162))) flX12_217 (by decide) rfl rfl dX12_read_139 ?_
          refine lv_iload_n C.1 C.2.1 dX12_read_142 rfl (lv_at hl 6 rfl) ?_
          refine lv_iload C.1 C.2.1 dX12_read_143 (lv_at hl 3 rfl) ?_
          refine m_zast C w (k := 162) (i := q1) (n := 4) (x := (x4_11)) (by decide) rfl (by omega) (by decide) (by rw [ex4_11]; exact hbB) dX12_read_145 (fun H locs w => ?_)
          obtain ⟨M_22, eM_22⟩ : ∃ zz, zz = mm_w M_21 162 q1 (x4_11) := ⟨_, rfl⟩
          rw [← eM_22] at w
          refine lv_aload_n C.1 C.2.1 dX12_read_146 rfl (lv_at hl 5 rfl) ?_
          refine m_get C w (k := 117) (j := 48) (v := .ref (r (163))) flX12_220 (by decide) rfl rfl dX12_read_147 ?_
          refine lv_iload_n C.1 C.2.1 dX12_read_150 rfl (lv_at hl 6 rfl) ?_
          refine lv_iload C.1 C.2.1 dX12_read_151 (lv_at hl 2 rfl) ?_
          refine m_zast C w (k := 163) (i := q1) (n := 4) (x := (x5_12)) (by decide) rfl (by omega) (by decide) (by rw [ex5_12]; exact hbC) dX12_read_153 (fun H locs w => ?_)
          obtain ⟨M_23, eM_23⟩ : ∃ zz, zz = mm_w M_22 163 q1 (x5_12) := ⟨_, rfl⟩
          rw [← eM_23] at w
          refine lv_aload_n C.1 C.2.1 dX12_read_154 rfl (lv_at hl 5 rfl) ?_
          refine m_get C w (k := 117) (j := 51) (v := .ref (r (166))) flX12_229 (by decide) rfl rfl dX12_read_155 ?_
          refine lv_iload_n C.1 C.2.1 dX12_read_158 rfl (lv_at hl 6 rfl) ?_
          refine lv_lload C.1 C.2.1 dX12_read_159 (lv_at hl 1 rfl) ?_
          refine m_last C w (k := 166) (i := q1) (n := 4) (x := (x6_13)) (by decide) rfl (by omega) (by decide) dX12_read_161 (fun H locs w => ?_)
          obtain ⟨M_24, eM_24⟩ : ∃ zz, zz = mm_wl M_23 166 q1 (x6_13) := ⟨_, rfl⟩
          rw [← eM_24] at w
          refine lv_aload_n C.1 C.2.1 dX12_read_162 rfl (lv_at hl 5 rfl) ?_
          refine m_get C w (k := 117) (j := 50) (v := .ref (r (165))) flX12_226 (by decide) rfl rfl dX12_read_163 ?_
          refine lv_iload_n C.1 C.2.1 dX12_read_166 rfl (lv_at hl 6 rfl) ?_
          refine lv_dup2_11 C.1 C.2.1 dX12_read_167 rfl rfl ?_
          refine m_iald C w (k := 165) (i := q1) (n := 4) (wr := true) (by decide) rfl (by omega) (by decide) dX12_read_168 ?_
          refine lv_iconst (v := 1) C.1 C.2.1 dX12_read_169 (by decide) ?_
          refine lv_iadd C.1 C.2.1 dX12_read_170 ?_
          refine m_iast C w (k := 165) (i := q1) (n := 4) (x := ((M_24.1 165 q1) + (1 : Int32))) (by decide) rfl (by omega) (by decide) dX12_read_171 (fun H locs w => ?_)
          obtain ⟨M_25, eM_25⟩ : ∃ zz, zz = mm_w M_24 165 q1 ((M_24.1 165 q1) + (1 : Int32)) := ⟨_, rfl⟩
          rw [← eM_25] at w
          refine lv_iconst (v := (-1)) C.1 C.2.1 dX12_read_172 (by decide) ?_
          exact m_iret C w (by subst eq1 eq2 eM_5 eM_9 ex3_10 ex4_11 ex5_12 ex6_13 ev_15 eM_14 eM_20 eM_21 eM_22 eM_23 eM_24 eM_25; exact Eq.symm (((if_pos hS).trans ((if_neg h_6).trans ((if_pos h_8).trans ((if_neg h_16).trans rfl)))))) dX12_read_173
      · refine lv_iconst (v := (-1)) C.1 C.2.1 dX12_read_45 (by decide) ?_
        exact m_iret C w (by subst eq1 eq2 eM_5; exact Eq.symm (((if_pos hS).trans ((if_neg h_6).trans ((if_neg h_8).trans rfl))))) dX12_read_46
  · refine lv_aload_n C.1 C.2.1 dX12_read_0 rfl (lv_at hl 0 rfl) ?_
    refine lv_iload_n C.1 C.2.1 dX12_read_1 rfl (lv_at hl 1 rfl) ?_
    refine m_cvi C w hl cvX12_421 (k := 117) (by decide) rfl (q := (RX12, TX12, 58)) rfl rfl (As := [.int (v1)]) (rest := []) (c_X12_isSession l D b0 r M (v1) ) rfl rfl (Nat.le_of_ble_eq_true rfl) ⟨Nat.le_of_ble_eq_true rfl, Nat.le_of_ble_eq_true rfl⟩ ⟨Nat.zero_le _, Nat.zero_le _⟩ dX12_read_2 (fun v_26 M9 H locs e9 w => ?_)
    obtain ⟨ev_26, e9⟩ := e9
    rw [e9] at w
    subst ev_26
    refine lv_if_eq (tgt := 20) C.1 C.2.1 dX12_read_5 (by decide) (fun h_27 => ?_) (fun h_27 => ?_)
    · refine lv_bipush (v := (-2)) C.1 C.2.1 dX12_read_20 (by decide) ?_
      exact m_iret C w (by exact Eq.symm (((if_neg hS).trans ((if_pos h_27).trans rfl)))) dX12_read_22
    · refine lv_iload_n C.1 C.2.1 dX12_read_8 rfl (lv_at hl 2 rfl) ?_
      refine lv_iconst (v := 0) C.1 C.2.1 dX12_read_9 (by decide) ?_
      refine lv_aload_n C.1 C.2.1 dX12_read_10 rfl (lv_at hl 0 rfl) ?_
      refine m_get C w (k := 117) (j := 4) (v := .int (M.1 117 4)) flX12_364 (by decide) rfl rfl dX12_read_11 ?_
      refine m_i (y := nI (ts)) h1 ?_
      refine m_csi C w hl csX12_373 (As := [.int (v2), .int 0, .int (nI (ts))]) (rest := []) (c_X12_in l D b0 r M (v2) (0 : Int32) (nI (ts)) ) rfl rfl (Nat.le_of_ble_eq_true rfl) ⟨Nat.le_of_ble_eq_true rfl, Nat.le_of_ble_eq_true rfl⟩ ⟨Nat.zero_le _, Nat.zero_le _⟩ dX12_read_14 (fun v_28 M9 H locs e9 w => ?_)
      obtain ⟨ev_28, e9⟩ := e9
      rw [e9] at w
      subst ev_28
      refine lv_if_ne (tgt := 23) C.1 C.2.1 dX12_read_17 (by decide) (fun h_29 => absurd h_29 (fun q => hS ⟨h_27, q⟩)) (fun _ => ?_)
      refine lv_bipush (v := (-2)) C.1 C.2.1 dX12_read_20 (by decide) ?_
      exact m_iret C w (by exact Eq.symm (((if_neg hS).trans ((if_neg h_27).trans rfl)))) dX12_read_22

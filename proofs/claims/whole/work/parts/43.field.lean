def f_X12_carried_B1 (k1 : Nat) (t : Nat) (M_5 : mm_M) (x2_6 : Int64) : mm_M :=
  if 15 ≤ t then (let M_8 := mm_wl M_5 k1 0 ((M_5.2 k1 0) + ((38) * ((x2_6) - (1))))
  let M_9 := mm_wl M_8 k1 t ((M_8.2 k1 t) - ((x2_6) <<< (((16 : Int32)).toInt64 &&& 63)))
  M_9) else (let M_10 := mm_wl M_5 k1 (t + 1) ((M_5.2 k1 (t + 1)) + ((x2_6) - (1)))
  let M_11 := mm_wl M_10 k1 t ((M_10.2 k1 t) - ((x2_6) <<< (((16 : Int32)).toInt64 &&& 63)))
  M_11)
theorem w_f_X12_carried_B1 (k1 : Nat) (t : Nat) (M_5 : mm_M) (x2_6 : Int64) : mm_fr [k1] M_5 (f_X12_carried_B1 k1 t M_5 x2_6) := by
  unfold f_X12_carried_B1
  exact (mm_fr_ite (fun _ => (mm_fr_wl (by simp) (mm_fr_wl (by simp) (mm_fr_refl _ _)))) (fun _ => (mm_fr_wl (by simp) (mm_fr_wl (by simp) (mm_fr_refl _ _)))))
def f_X12_carried_L2 (k1 : Nat) (σ : mm_M) : Nat → mm_M
  | 0 => σ
  | t + 1 =>
  let M_3 := f_X12_carried_L2 k1 σ t
  let M_5 := mm_wl M_3 k1 t ((M_3.2 k1 t) + (65536))
  let x2_6 := (M_5.2 k1 t) >>> (((16 : Int32)).toInt64 &&& 63)
  f_X12_carried_B1 k1 t M_5 x2_6
theorem w_f_X12_carried_L2 (k1 : Nat) (σ : mm_M) : ∀ t : Nat, mm_fr [k1] σ (f_X12_carried_L2 k1 σ t)
  | 0 => mm_fr_refl _ _
  | t + 1 => have ih := w_f_X12_carried_L2 k1 σ t
    ((w_f_X12_carried_B1 _ _ _ _).on (by simp) (mm_fr_wl (by simp) ih))
def f_X12_carried (k1 : Nat) (M : mm_M) : mm_M :=
  let M_1 := f_X12_carried_L2 k1 M 16
  M_1
theorem w_f_X12_carried (k1 : Nat) (M : mm_M) : mm_fr [k1] M (f_X12_carried k1 M) := by
  unfold f_X12_carried
  exact ((w_f_X12_carried_L2 _ _ 16).on (by simp) (mm_fr_refl _ _))
set_option maxHeartbeats 4000000 in
set_option maxRecDepth 100000 in
theorem c_X12_carried (l : Launch) (D : va_G) (b0 : Nat) (r : Nat → Nat) (M : mm_M) (k1 : Nat) {n1 : Nat} (hk1 : k1 < 173) (hs1 : mm_sh k1 = .inl (.long, n1, true)) (hn1 : n1 < 2 ^ 31) (hp1 : 16 ≤ n1) : mm_Mv l yX12_carried cX12_carried 4 0 0 D b0 r [.ref (r (k1))] M (fun M' => M' = f_X12_carried k1 M) := by
  refine mm_enter (cc := cX12_carried) (nL := 4) (ret := none) (by decide) (Nat.le_of_ble_eq_true rfl) ?_
  intro p e s m args below meth c C w ls hl
  have hl : lv_has ls 4 [(0, .ref (r (k1)))] := hl
  refine lv_iconst (v := 0) C.1 C.2.1 dX12_carried_0 (by decide) ?_
  refine lv_istore_n (lv' := [(1, .int 0), (0, .ref (r (k1)))]) C.1 C.2.1 dX12_carried_1 rfl hl (by decide) rfl (fun ls hl => ?_)
  have loop : ∀ (k t : Nat), t + k = 16 → ∀ (H : Heap) (locs : List Loc) (ls : Array Slot), mm_W D b0 r (f_X12_carried_L2 k1 M t) s H locs → lv_has ls 4 [(1, .int (nI (t))), (0, .ref (r (k1)))] → W p l e (mm_rm 0 0) s m args below meth c H locs 0 0 (MQ below (va_Qv (fun M' => M' = f_X12_carried k1 M) (mm_U D b0 r) (fun q => b0 ≤ q)) args s 0 0 (fun q => b0 ≤ q)) (F0 m 2 ls []) := by
    intro k
    induction k with
    | zero =>
      intro t ht H locs ls w hl
      obtain rfl : 16 = t := by omega
      obtain ⟨M_1, eM_1⟩ : ∃ zz, zz = f_X12_carried_L2 k1 M 16 := ⟨_, rfl⟩
      rw [← eM_1] at w
      refine lv_iload_n C.1 C.2.1 dX12_carried_2 rfl (lv_at hl 0 rfl) ?_
      refine lv_bipush (v := 16) C.1 C.2.1 dX12_carried_3 (by decide) ?_
      refine m_icmp_ge (tgt := 73) (a := 16) (b := 16) C (by omega) (by omega) dX12_carried_5 (by decide) (fun _ => ?_) (fun h_2 => absurd h_2 (by omega))
      exact m_vret C w (by subst eM_1; exact Eq.symm (rfl)) dX12_carried_73
    | succ k ih =>
      intro t ht H locs ls w hl
      obtain ⟨M_3, eM_3⟩ : ∃ zz, zz = f_X12_carried_L2 k1 M t := ⟨_, rfl⟩
      rw [← eM_3] at w
      refine lv_iload_n C.1 C.2.1 dX12_carried_2 rfl (lv_at hl 0 rfl) ?_
      refine lv_bipush (v := 16) C.1 C.2.1 dX12_carried_3 (by decide) ?_
      refine m_icmp_ge (tgt := 73) (a := t) (b := 16) C (by omega) (by omega) dX12_carried_5 (by decide) (fun h_4 => absurd h_4 (by omega)) (fun _ => ?_)
      refine lv_aload_n C.1 C.2.1 dX12_carried_8 rfl (lv_at hl 1 rfl) ?_
      refine lv_iload_n C.1 C.2.1 dX12_carried_9 rfl (lv_at hl 0 rfl) ?_
      refine lv_dup2_11 C.1 C.2.1 dX12_carried_10 rfl rfl ?_
      refine m_lald C w (k := k1) (i := t) (n := n1) (wr := true) (Nat.lt_trans hk1 (by decide)) hs1 (by omega) hn1 dX12_carried_11 ?_
      refine lv_ldc2 (v := (65536)) C.1 C.2.1 C.2.2.2.1 (C.2.2.2.2.1 _ klX12_279) dX12_carried_12 ?_
      refine lv_ladd C.1 C.2.1 dX12_carried_15 ?_
      refine m_last C w (k := k1) (i := t) (n := n1) (x := ((M_3.2 k1 t) + (65536))) hk1 hs1 (by omega) hn1 dX12_carried_16 (fun H locs w => ?_)
      obtain ⟨M_5, eM_5⟩ : ∃ zz, zz = mm_wl M_3 k1 t ((M_3.2 k1 t) + (65536)) := ⟨_, rfl⟩
      rw [← eM_5] at w
      refine lv_aload_n C.1 C.2.1 dX12_carried_17 rfl (lv_at hl 1 rfl) ?_
      refine lv_iload_n C.1 C.2.1 dX12_carried_18 rfl (lv_at hl 0 rfl) ?_
      refine m_lald C w (k := k1) (i := t) (n := n1) (wr := true) (Nat.lt_trans hk1 (by decide)) hs1 (by omega) hn1 dX12_carried_19 ?_
      refine lv_bipush (v := 16) C.1 C.2.1 dX12_carried_20 (by decide) ?_
      refine lv_lshr (v := (M_5.2 k1 t) >>> (((16 : Int32)).toInt64 &&& 63)) C.1 C.2.1 dX12_carried_22 rfl ?_
      refine lv_topl (fun x2_6 ex2_6 => ?_)
      refine lv_lstore_n (lv' := [(2, .long (x2_6)), (1, .int (nI (t))), (0, .ref (r (k1)))]) C.1 C.2.1 dX12_carried_23 rfl hl (by decide) rfl (fun ls hl => ?_)
      refine lv_iload_n C.1 C.2.1 dX12_carried_24 rfl (lv_at hl 1 rfl) ?_
      refine lv_bipush (v := 15) C.1 C.2.1 dX12_carried_25 (by decide) ?_
      refine m_icmp_ge (tgt := 44) (a := t) (b := 15) C (by omega) (by omega) dX12_carried_27 (by decide) (fun h_7 => ?_) (fun h_7 => ?_)
      · refine lv_aload_n C.1 C.2.1 dX12_carried_44 rfl (lv_at hl 2 rfl) ?_
        refine lv_iconst (v := 0) C.1 C.2.1 dX12_carried_45 (by decide) ?_
        refine lv_dup2_11 C.1 C.2.1 dX12_carried_46 rfl rfl ?_
        refine m_lald C w (k := k1) (i := 0) (n := n1) (wr := true) (Nat.lt_trans hk1 (by decide)) hs1 (by omega) hn1 dX12_carried_47 ?_
        refine lv_ldc2 (v := (38)) C.1 C.2.1 C.2.2.2.1 (C.2.2.2.2.1 _ klX12_281) dX12_carried_48 ?_
        refine lv_lload_n C.1 C.2.1 dX12_carried_51 rfl (lv_at hl 0 rfl) ?_
        refine lv_lconst (v := 1) C.1 C.2.1 dX12_carried_52 (by decide) ?_
        refine lv_lsub C.1 C.2.1 dX12_carried_53 ?_
        refine lv_lmul C.1 C.2.1 dX12_carried_54 ?_
        refine lv_ladd C.1 C.2.1 dX12_carried_55 ?_
        refine m_last C w (k := k1) (i := 0) (n := n1) (x := ((M_5.2 k1 0) + ((38) * ((x2_6) - (1))))) hk1 hs1 (by omega) hn1 dX12_carried_56 (fun H locs w => ?_)
        obtain ⟨M_8, eM_8⟩ : ∃ zz, zz = mm_wl M_5 k1 0 ((M_5.2 k1 0) + ((38) * ((x2_6) - (1)))) := ⟨_, rfl⟩
        rw [← eM_8] at w
        refine lv_aload_n C.1 C.2.1 dX12_carried_57 rfl (lv_at hl 2 rfl) ?_
        refine lv_iload_n C.1 C.2.1 dX12_carried_58 rfl (lv_at hl 1 rfl) ?_
        refine lv_dup2_11 C.1 C.2.1 dX12_carried_59 rfl rfl ?_
        refine m_lald C w (k := k1) (i := t) (n := n1) (wr := true) (Nat.lt_trans hk1 (by decide)) hs1 (by omega) hn1 dX12_carried_60 ?_
        refine lv_lload_n C.1 C.2.1 dX12_carried_61 rfl (lv_at hl 0 rfl) ?_
        refine lv_bipush (v := 16) C.1 C.2.1 dX12_carried_62 (by decide) ?_
        refine lv_lshl (v := (x2_6) <<< (((16 : Int32)).toInt64 &&& 63)) C.1 C.2.1 dX12_carried_64 rfl ?_
        refine lv_lsub C.1 C.2.1 dX12_carried_65 ?_
        refine m_last C w (k := k1) (i := t) (n := n1) (x := ((M_8.2 k1 t) - ((x2_6) <<< (((16 : Int32)).toInt64 &&& 63)))) hk1 hs1 (by omega) hn1 dX12_carried_66 (fun H locs w => ?_)
        obtain ⟨M_9, eM_9⟩ : ∃ zz, zz = mm_wl M_8 k1 t ((M_8.2 k1 t) - ((x2_6) <<< (((16 : Int32)).toInt64 &&& 63))) := ⟨_, rfl⟩
        rw [← eM_9] at w
        refine lv_iinc (v := (nI (t + 1))) (lv' := [(1, .int (nI (t + 1))), (2, .long (x2_6)), (0, .ref (r (k1)))]) C.1 C.2.1 dX12_carried_67 hl (k := 1) rfl (nI_add t 1) (by decide) rfl (fun ls hl => ?_)
        refine lv_goto (tgt := 2) C.1 C.2.1 dX12_carried_70 (by decide) ?_
        have h9 : lv_has ls 4 [(1, .int (nI (t + 1))), (0, .ref (r (k1)))] := lv_sub hl [0, 2] rfl
        have hlZ : lv_has ls 4 [(1, .int (nI (t + 1))), (0, .ref (r (k1)))] := h9
        have wZ := w
        subst eM_3 eM_5 ex2_6 eM_8 eM_9
        refine ih (t + 1) (by omega) _ _ _ (m_w (Eq.symm (congrArg (fun z => z) (show f_X12_carried_L2 k1 M (t + 1) = _ from ((if_pos h_7).trans rfl)))) wZ) ?_
        exact hlZ
      · refine lv_aload_n C.1 C.2.1 dX12_carried_30 rfl (lv_at hl 2 rfl) ?_
        refine lv_iload_n C.1 C.2.1 dX12_carried_31 rfl (lv_at hl 1 rfl) ?_
        refine lv_iconst (v := 1) C.1 C.2.1 dX12_carried_32 (by decide) ?_
        refine lv_iadd C.1 C.2.1 dX12_carried_33 ?_
        refine m_i (y := nI (t + 1)) (nI_add t 1) ?_
        refine lv_dup2_11 C.1 C.2.1 dX12_carried_34 rfl rfl ?_
        refine m_lald C w (k := k1) (i := t + 1) (n := n1) (wr := true) (Nat.lt_trans hk1 (by decide)) hs1 (by omega) hn1 dX12_carried_35 ?_
        refine lv_lload_n C.1 C.2.1 dX12_carried_36 rfl (lv_at hl 0 rfl) ?_
        refine lv_lconst (v := 1) C.1 C.2.1 dX12_carried_37 (by decide) ?_
        refine lv_lsub C.1 C.2.1 dX12_carried_38 ?_
        refine lv_ladd C.1 C.2.1 dX12_carried_39 ?_
        refine m_last C w (k := k1) (i := t + 1) (n := n1) (x := ((M_5.2 k1 (t + 1)) + ((x2_6) - (1)))) hk1 hs1 (by omega) hn1 dX12_carried_40 (fun H locs w => ?_)
        obtain ⟨M_10, eM_10⟩ : ∃ zz, zz = mm_wl M_5 k1 (t + 1) ((M_5.2 k1 (t + 1)) + ((x2_6) - (1))) := ⟨_, rfl⟩
        rw [← eM_10] at w
        refine lv_goto (tgt := 57) C.1 C.2.1 dX12_carried_41 (by decide) ?_
        refine lv_aload_n C.1 C.2.1 dX12_carried_57 rfl (lv_at hl 2 rfl) ?_
        refine lv_iload_n C.1 C.2.1 dX12_carried_58 rfl (lv_at hl 1 rfl) ?_
        refine lv_dup2_11 C.1 C.2.1 dX12_carried_59 rfl rfl ?_
        refine m_lald C w (k := k1) (i := t) (n := n1) (wr := true) (Nat.lt_trans hk1 (by decide)) hs1 (by omega) hn1 dX12_carried_60 ?_
        refine lv_lload_n C.1 C.2.1 dX12_carried_61 rfl (lv_at hl 0 rfl) ?_
        refine lv_bipush (v := 16) C.1 C.2.1 dX12_carried_62 (by decide) ?_
        refine lv_lshl (v := (x2_6) <<< (((16 : Int32)).toInt64 &&& 63)) C.1 C.2.1 dX12_carried_64 rfl ?_
        refine lv_lsub C.1 C.2.1 dX12_carried_65 ?_
        refine m_last C w (k := k1) (i := t) (n := n1) (x := ((M_10.2 k1 t) - ((x2_6) <<< (((16 : Int32)).toInt64 &&& 63)))) hk1 hs1 (by omega) hn1 dX12_carried_66 (fun H locs w => ?_)
        obtain ⟨M_11, eM_11⟩ : ∃ zz, zz = mm_wl M_10 k1 t ((M_10.2 k1 t) - ((x2_6) <<< (((16 : Int32)).toInt64 &&& 63))) := ⟨_, rfl⟩
        rw [← eM_11] at w
        refine lv_iinc (v := (nI (t + 1))) (lv' := [(1, .int (nI (t + 1))), (2, .long (x2_6)), (0, .ref (r (k1)))]) C.1 C.2.1 dX12_carried_67 hl (k := 1) rfl (nI_add t 1) (by decide) rfl (fun ls hl => ?_)
        refine lv_goto (tgt := 2) C.1 C.2.1 dX12_carried_70 (by decide) ?_
        have h9 : lv_has ls 4 [(1, .int (nI (t + 1))), (0, .ref (r (k1)))] := lv_sub hl [0, 2] rfl
        have hlZ : lv_has ls 4 [(1, .int (nI (t + 1))), (0, .ref (r (k1)))] := h9
        have wZ := w
        subst eM_3 eM_5 ex2_6 eM_10 eM_11
        refine ih (t + 1) (by omega) _ _ _ (m_w (Eq.symm (congrArg (fun z => z) (show f_X12_carried_L2 k1 M (t + 1) = _ from ((if_neg (Nat.not_le.mpr h_7)).trans rfl)))) wZ) ?_
        exact hlZ
  exact loop 16 0 (by omega) _ _ ls w hl

def f_X12_swapped_L2 (k1 : Nat) (k2 : Nat) (σ : mm_M) : Nat → mm_M
  | 0 => σ
  | t + 1 =>
  let M_3 := f_X12_swapped_L2 k1 k2 σ t
  let x4_6 := M_3.2 k1 t
  let M_7 := mm_wl M_3 k1 t (M_3.2 k2 t)
  let M_8 := mm_wl M_7 k2 t (x4_6)
  M_8
theorem w_f_X12_swapped_L2 (k1 : Nat) (k2 : Nat) (σ : mm_M) : ∀ t : Nat, mm_fr [k1, k2] σ (f_X12_swapped_L2 k1 k2 σ t)
  | 0 => mm_fr_refl _ _
  | t + 1 => have ih := w_f_X12_swapped_L2 k1 k2 σ t
    (mm_fr_wl (by simp) (mm_fr_wl (by simp) ih))
def f_X12_swapped (k1 : Nat) (k2 : Nat) (v1 : Int32) (M : mm_M) : mm_M :=
  if v1 = (1 : Int32) then (let M_1 := f_X12_swapped_L2 k1 k2 M 16
  M_1) else (M)
theorem w_f_X12_swapped (k1 : Nat) (k2 : Nat) (v1 : Int32) (M : mm_M) : mm_fr [k1, k2] M (f_X12_swapped k1 k2 v1 M) := by
  unfold f_X12_swapped
  exact (mm_fr_ite (fun _ => ((w_f_X12_swapped_L2 _ _ _ 16).on (by simp) (mm_fr_refl _ _))) (fun _ => (mm_fr_refl _ _)))
set_option maxHeartbeats 4000000 in
set_option maxRecDepth 100000 in
theorem c_X12_swapped (l : Launch) (D : va_G) (b0 : Nat) (r : Nat → Nat) (M : mm_M) (k1 : Nat) (k2 : Nat) (v1 : Int32) {n1 : Nat} (hk1 : k1 < 173) (hs1 : mm_sh k1 = .inl (.long, n1, true)) (hn1 : n1 < 2 ^ 31) (hp1 : 16 ≤ n1) {n2 : Nat} (hk2 : k2 < 173) (hs2 : mm_sh k2 = .inl (.long, n2, true)) (hn2 : n2 < 2 ^ 31) (hp2 : 16 ≤ n2) : mm_Mv l yX12_swapped cX12_swapped 6 0 0 D b0 r [.ref (r (k1)), .ref (r (k2)), .int (v1)] M (fun M' => M' = f_X12_swapped k1 k2 v1 M) := by
  refine mm_enter (cc := cX12_swapped) (nL := 6) (ret := none) (by decide) (Nat.le_of_ble_eq_true rfl) ?_
  intro p e s m args below meth c C w ls hl
  have hl : lv_has ls 6 [(0, .ref (r (k1))), (1, .ref (r (k2))), (2, .int (v1))] := hl
  by_cases hS : v1 = (1 : Int32)
  · refine lv_iconst (v := 0) C.1 C.2.1 dX12_swapped_0 (by decide) ?_
    refine lv_istore_n (lv' := [(3, .int 0), (0, .ref (r (k1))), (1, .ref (r (k2))), (2, .int (v1))]) C.1 C.2.1 dX12_swapped_1 rfl hl (by decide) rfl (fun ls hl => ?_)
    have loop : ∀ (k t : Nat), t + k = 16 → ∀ (H : Heap) (locs : List Loc) (ls : Array Slot), mm_W D b0 r (f_X12_swapped_L2 k1 k2 M t) s H locs → lv_has ls 6 [(3, .int (nI (t))), (0, .ref (r (k1))), (1, .ref (r (k2))), (2, .int (v1))] → W p l e (mm_rm 0 0) s m args below meth c H locs 0 0 (MQ below (va_Qv (fun M' => M' = f_X12_swapped k1 k2 v1 M) (mm_U D b0 r) (fun q => b0 ≤ q)) args s 0 0 (fun q => b0 ≤ q)) (F0 m 2 ls []) := by
      intro k
      induction k with
      | zero =>
        intro t ht H locs ls w hl
        obtain rfl : 16 = t := by omega
        obtain ⟨M_1, eM_1⟩ : ∃ zz, zz = f_X12_swapped_L2 k1 k2 M 16 := ⟨_, rfl⟩
        rw [← eM_1] at w
        refine lv_iload_n C.1 C.2.1 dX12_swapped_2 rfl (lv_at hl 0 rfl) ?_
        refine lv_bipush (v := 16) C.1 C.2.1 dX12_swapped_3 (by decide) ?_
        refine m_icmp_ge (tgt := 35) (a := 16) (b := 16) C (by omega) (by omega) dX12_swapped_5 (by decide) (fun _ => ?_) (fun h_2 => absurd h_2 (by omega))
        exact m_vret C w (by subst eM_1; exact Eq.symm (((if_pos hS).trans rfl))) dX12_swapped_35
      | succ k ih =>
        intro t ht H locs ls w hl
        obtain ⟨M_3, eM_3⟩ : ∃ zz, zz = f_X12_swapped_L2 k1 k2 M t := ⟨_, rfl⟩
        rw [← eM_3] at w
        refine lv_iload_n C.1 C.2.1 dX12_swapped_2 rfl (lv_at hl 0 rfl) ?_
        refine lv_bipush (v := 16) C.1 C.2.1 dX12_swapped_3 (by decide) ?_
        refine m_icmp_ge (tgt := 35) (a := t) (b := 16) C (by omega) (by omega) dX12_swapped_5 (by decide) (fun h_4 => absurd h_4 (by omega)) (fun _ => ?_)
        refine lv_iload_n C.1 C.2.1 dX12_swapped_8 rfl (lv_at hl 3 rfl) ?_
        refine lv_iconst (v := 1) C.1 C.2.1 dX12_swapped_9 (by decide) ?_
        refine lv_icmp_ne (tgt := 35) C.1 C.2.1 dX12_swapped_10 (by decide) (fun h_5 => absurd h_5 (fun q => q hS)) (fun _ => ?_)
        refine lv_aload_n C.1 C.2.1 dX12_swapped_13 rfl (lv_at hl 1 rfl) ?_
        refine lv_iload_n C.1 C.2.1 dX12_swapped_14 rfl (lv_at hl 0 rfl) ?_
        refine m_lald C w (k := k1) (i := t) (n := n1) (wr := true) (Nat.lt_trans hk1 (by decide)) hs1 (by omega) hn1 dX12_swapped_15 ?_
        refine lv_topl (fun x4_6 ex4_6 => ?_)
        refine lv_lstore (lv' := [(4, .long (x4_6)), (3, .int (nI (t))), (0, .ref (r (k1))), (1, .ref (r (k2))), (2, .int (v1))]) C.1 C.2.1 dX12_swapped_16 hl (by decide) rfl (fun ls hl => ?_)
        refine lv_aload_n C.1 C.2.1 dX12_swapped_18 rfl (lv_at hl 2 rfl) ?_
        refine lv_iload_n C.1 C.2.1 dX12_swapped_19 rfl (lv_at hl 1 rfl) ?_
        refine lv_aload_n C.1 C.2.1 dX12_swapped_20 rfl (lv_at hl 3 rfl) ?_
        refine lv_iload_n C.1 C.2.1 dX12_swapped_21 rfl (lv_at hl 1 rfl) ?_
        refine m_lald C w (k := k2) (i := t) (n := n2) (wr := true) (Nat.lt_trans hk2 (by decide)) hs2 (by omega) hn2 dX12_swapped_22 ?_
        refine m_last C w (k := k1) (i := t) (n := n1) (x := (M_3.2 k2 t)) hk1 hs1 (by omega) hn1 dX12_swapped_23 (fun H locs w => ?_)
        obtain ⟨M_7, eM_7⟩ : ∃ zz, zz = mm_wl M_3 k1 t (M_3.2 k2 t) := ⟨_, rfl⟩
        rw [← eM_7] at w
        refine lv_aload_n C.1 C.2.1 dX12_swapped_24 rfl (lv_at hl 3 rfl) ?_
        refine lv_iload_n C.1 C.2.1 dX12_swapped_25 rfl (lv_at hl 1 rfl) ?_
        refine lv_lload C.1 C.2.1 dX12_swapped_26 (lv_at hl 0 rfl) ?_
        refine m_last C w (k := k2) (i := t) (n := n2) (x := (x4_6)) hk2 hs2 (by omega) hn2 dX12_swapped_28 (fun H locs w => ?_)
        obtain ⟨M_8, eM_8⟩ : ∃ zz, zz = mm_wl M_7 k2 t (x4_6) := ⟨_, rfl⟩
        rw [← eM_8] at w
        refine lv_iinc (v := (nI (t + 1))) (lv' := [(3, .int (nI (t + 1))), (4, .long (x4_6)), (0, .ref (r (k1))), (1, .ref (r (k2))), (2, .int (v1))]) C.1 C.2.1 dX12_swapped_29 hl (k := 1) rfl (nI_add t 1) (by decide) rfl (fun ls hl => ?_)
        refine lv_goto (tgt := 2) C.1 C.2.1 dX12_swapped_32 (by decide) ?_
        have h9 : lv_has ls 6 [(3, .int (nI (t + 1))), (0, .ref (r (k1))), (1, .ref (r (k2))), (2, .int (v1))] := lv_sub hl [0, 2, 3, 4] rfl
        have hlZ : lv_has ls 6 [(3, .int (nI (t + 1))), (0, .ref (r (k1))), (1, .ref (r (k2))), (2, .int (v1))] := h9
        have wZ := w
        subst eM_3 ex4_6 eM_7 eM_8
        refine ih (t + 1) (by omega) _ _ _ (wZ) ?_
        exact hlZ
    exact loop 16 0 (by omega) _ _ ls w hl
  · refine lv_iconst (v := 0) C.1 C.2.1 dX12_swapped_0 (by decide) ?_
    refine lv_istore_n (lv' := [(3, .int 0), (0, .ref (r (k1))), (1, .ref (r (k2))), (2, .int (v1))]) C.1 C.2.1 dX12_swapped_1 rfl hl (by decide) rfl (fun ls hl => ?_)
    refine lv_iload_n C.1 C.2.1 dX12_swapped_2 rfl (lv_at hl 0 rfl) ?_
    refine lv_bipush (v := 16) C.1 C.2.1 dX12_swapped_3 (by decide) ?_
    refine m_icmp_ge (tgt := 35) (a := 0) (b := 16) C (by omega) (by omega) dX12_swapped_5 (by decide) (fun h_9 => absurd h_9 (by decide)) (fun _ => ?_)
    refine lv_iload_n C.1 C.2.1 dX12_swapped_8 rfl (lv_at hl 3 rfl) ?_
    refine lv_iconst (v := 1) C.1 C.2.1 dX12_swapped_9 (by decide) ?_
    refine lv_icmp_ne (tgt := 35) C.1 C.2.1 dX12_swapped_10 (by decide) (fun _ => ?_) (fun h_10 => absurd h_10 hS)
    exact m_vret C w (by exact Eq.symm (((if_neg hS).trans rfl))) dX12_swapped_35

def f_X12_same_L2 (k1 : Nat) (k2 : Nat) (σ : mm_M) : Nat → mm_M
  | 0 => σ
  | t + 1 =>
  let M_3 := f_X12_same_L2 k1 k2 σ t
  let M_5 := mm_wl M_3 k1 t (M_3.2 k2 t)
  M_5
theorem w_f_X12_same_L2 (k1 : Nat) (k2 : Nat) (σ : mm_M) : ∀ t : Nat, mm_fr [k1] σ (f_X12_same_L2 k1 k2 σ t)
  | 0 => mm_fr_refl _ _
  | t + 1 => have ih := w_f_X12_same_L2 k1 k2 σ t
    (mm_fr_wl (by simp) ih)
def f_X12_same (k1 : Nat) (k2 : Nat) (M : mm_M) : mm_M :=
  let M_1 := f_X12_same_L2 k1 k2 M 16
  M_1
theorem w_f_X12_same (k1 : Nat) (k2 : Nat) (M : mm_M) : mm_fr [k1] M (f_X12_same k1 k2 M) := by
  unfold f_X12_same
  exact ((w_f_X12_same_L2 _ _ _ 16).on (by simp) (mm_fr_refl _ _))
set_option maxHeartbeats 4000000 in
set_option maxRecDepth 100000 in
theorem c_X12_same (l : Launch) (D : va_G) (b0 : Nat) (r : Nat → Nat) (M : mm_M) (k1 : Nat) (k2 : Nat) {n1 : Nat} (hk1 : k1 < 173) (hs1 : mm_sh k1 = .inl (.long, n1, true)) (hn1 : n1 < 2 ^ 31) (hp1 : 16 ≤ n1) {n2 : Nat} {w2 : Bool} (hk2 : k2 < 181) (hs2 : mm_sh k2 = .inl (.long, n2, w2)) (hn2 : n2 < 2 ^ 31) (hp2 : 16 ≤ n2) : mm_Mv l yX12_same cX12_same 3 0 0 D b0 r [.ref (r (k1)), .ref (r (k2))] M (fun M' => M' = f_X12_same k1 k2 M) := by
  refine mm_enter (cc := cX12_same) (nL := 3) (ret := none) (by decide) (Nat.le_of_ble_eq_true rfl) ?_
  intro p e s m args below meth c C w ls hl
  have hl : lv_has ls 3 [(0, .ref (r (k1))), (1, .ref (r (k2)))] := hl
  refine lv_iconst (v := 0) C.1 C.2.1 dX12_same_0 (by decide) ?_
  refine lv_istore_n (lv' := [(2, .int 0), (0, .ref (r (k1))), (1, .ref (r (k2)))]) C.1 C.2.1 dX12_same_1 rfl hl (by decide) rfl (fun ls hl => ?_)
  have loop : ∀ (k t : Nat), t + k = 16 → ∀ (H : Heap) (locs : List Loc) (ls : Array Slot), mm_W D b0 r (f_X12_same_L2 k1 k2 M t) s H locs → lv_has ls 3 [(2, .int (nI (t))), (0, .ref (r (k1))), (1, .ref (r (k2)))] → W p l e (mm_rm 0 0) s m args below meth c H locs 0 0 (MQ below (va_Qv (fun M' => M' = f_X12_same k1 k2 M) (mm_U D b0 r) (fun q => b0 ≤ q)) args s 0 0 (fun q => b0 ≤ q)) (F0 m 2 ls []) := by
    intro k
    induction k with
    | zero =>
      intro t ht H locs ls w hl
      obtain rfl : 16 = t := by omega
      obtain ⟨M_1, eM_1⟩ : ∃ zz, zz = f_X12_same_L2 k1 k2 M 16 := ⟨_, rfl⟩
      rw [← eM_1] at w
      refine lv_iload_n C.1 C.2.1 dX12_same_2 rfl (lv_at hl 0 rfl) ?_
      refine lv_bipush (v := 16) C.1 C.2.1 dX12_same_3 (by decide) ?_
      refine m_icmp_ge (tgt := 20) (a := 16) (b := 16) C (by omega) (by omega) dX12_same_5 (by decide) (fun _ => ?_) (fun h_2 => absurd h_2 (by omega))
      exact m_vret C w (by subst eM_1; exact Eq.symm (rfl)) dX12_same_20
    | succ k ih =>
      intro t ht H locs ls w hl
      obtain ⟨M_3, eM_3⟩ : ∃ zz, zz = f_X12_same_L2 k1 k2 M t := ⟨_, rfl⟩
      rw [← eM_3] at w
      refine lv_iload_n C.1 C.2.1 dX12_same_2 rfl (lv_at hl 0 rfl) ?_
      refine lv_bipush (v := 16) C.1 C.2.1 dX12_same_3 (by decide) ?_
      refine m_icmp_ge (tgt := 20) (a := t) (b := 16) C (by omega) (by omega) dX12_same_5 (by decide) (fun h_4 => absurd h_4 (by omega)) (fun _ => ?_)
      refine lv_aload_n C.1 C.2.1 dX12_same_8 rfl (lv_at hl 1 rfl) ?_
      refine lv_iload_n C.1 C.2.1 dX12_same_9 rfl (lv_at hl 0 rfl) ?_
      refine lv_aload_n C.1 C.2.1 dX12_same_10 rfl (lv_at hl 2 rfl) ?_
      refine lv_iload_n C.1 C.2.1 dX12_same_11 rfl (lv_at hl 0 rfl) ?_
      refine m_lald C w (k := k2) (i := t) (n := n2) (wr := w2) hk2 hs2 (by omega) hn2 dX12_same_12 ?_
      refine m_last C w (k := k1) (i := t) (n := n1) (x := (M_3.2 k2 t)) hk1 hs1 (by omega) hn1 dX12_same_13 (fun H locs w => ?_)
      obtain ⟨M_5, eM_5⟩ : ∃ zz, zz = mm_wl M_3 k1 t (M_3.2 k2 t) := ⟨_, rfl⟩
      rw [← eM_5] at w
      refine lv_iinc (v := (nI (t + 1))) (lv' := [(2, .int (nI (t + 1))), (0, .ref (r (k1))), (1, .ref (r (k2)))]) C.1 C.2.1 dX12_same_14 hl (k := 0) rfl (nI_add t 1) (by decide) rfl (fun ls hl => ?_)
      refine lv_goto (tgt := 2) C.1 C.2.1 dX12_same_17 (by decide) ?_
      have h9 : lv_has ls 3 [(2, .int (nI (t + 1))), (0, .ref (r (k1))), (1, .ref (r (k2)))] := lv_sub hl [0, 1, 2] rfl
      have hlZ : lv_has ls 3 [(2, .int (nI (t + 1))), (0, .ref (r (k1))), (1, .ref (r (k2)))] := h9
      have wZ := w
      subst eM_3 eM_5
      refine ih (t + 1) (by omega) _ _ _ (wZ) ?_
      exact hlZ
  exact loop 16 0 (by omega) _ _ ls w hl

def f_X12_added_L2 (k1 : Nat) (k2 : Nat) (k3 : Nat) (σ : mm_M) : Nat → mm_M
  | 0 => σ
  | t + 1 =>
  let M_3 := f_X12_added_L2 k1 k2 k3 σ t
  let M_5 := mm_wl M_3 k1 t ((M_3.2 k2 t) + (M_3.2 k3 t))
  M_5
theorem w_f_X12_added_L2 (k1 : Nat) (k2 : Nat) (k3 : Nat) (σ : mm_M) : ∀ t : Nat, mm_fr [k1] σ (f_X12_added_L2 k1 k2 k3 σ t)
  | 0 => mm_fr_refl _ _
  | t + 1 => have ih := w_f_X12_added_L2 k1 k2 k3 σ t
    (mm_fr_wl (by simp) ih)
def f_X12_added (k1 : Nat) (k2 : Nat) (k3 : Nat) (M : mm_M) : mm_M :=
  let M_1 := f_X12_added_L2 k1 k2 k3 M 16
  M_1
theorem w_f_X12_added (k1 : Nat) (k2 : Nat) (k3 : Nat) (M : mm_M) : mm_fr [k1] M (f_X12_added k1 k2 k3 M) := by
  unfold f_X12_added
  exact ((w_f_X12_added_L2 _ _ _ _ 16).on (by simp) (mm_fr_refl _ _))
set_option maxHeartbeats 4000000 in
set_option maxRecDepth 100000 in
theorem c_X12_added (l : Launch) (D : va_G) (b0 : Nat) (r : Nat → Nat) (M : mm_M) (k1 : Nat) (k2 : Nat) (k3 : Nat) {n1 : Nat} (hk1 : k1 < 173) (hs1 : mm_sh k1 = .inl (.long, n1, true)) (hn1 : n1 < 2 ^ 31) (hp1 : 16 ≤ n1) {n2 : Nat} {w2 : Bool} (hk2 : k2 < 181) (hs2 : mm_sh k2 = .inl (.long, n2, w2)) (hn2 : n2 < 2 ^ 31) (hp2 : 16 ≤ n2) {n3 : Nat} {w3 : Bool} (hk3 : k3 < 181) (hs3 : mm_sh k3 = .inl (.long, n3, w3)) (hn3 : n3 < 2 ^ 31) (hp3 : 16 ≤ n3) : mm_Mv l yX12_added cX12_added 4 0 0 D b0 r [.ref (r (k1)), .ref (r (k2)), .ref (r (k3))] M (fun M' => M' = f_X12_added k1 k2 k3 M) := by
  refine mm_enter (cc := cX12_added) (nL := 4) (ret := none) (by decide) (Nat.le_of_ble_eq_true rfl) ?_
  intro p e s m args below meth c C w ls hl
  have hl : lv_has ls 4 [(0, .ref (r (k1))), (1, .ref (r (k2))), (2, .ref (r (k3)))] := hl
  refine lv_iconst (v := 0) C.1 C.2.1 dX12_added_0 (by decide) ?_
  refine lv_istore_n (lv' := [(3, .int 0), (0, .ref (r (k1))), (1, .ref (r (k2))), (2, .ref (r (k3)))]) C.1 C.2.1 dX12_added_1 rfl hl (by decide) rfl (fun ls hl => ?_)
  have loop : ∀ (k t : Nat), t + k = 16 → ∀ (H : Heap) (locs : List Loc) (ls : Array Slot), mm_W D b0 r (f_X12_added_L2 k1 k2 k3 M t) s H locs → lv_has ls 4 [(3, .int (nI (t))), (0, .ref (r (k1))), (1, .ref (r (k2))), (2, .ref (r (k3)))] → W p l e (mm_rm 0 0) s m args below meth c H locs 0 0 (MQ below (va_Qv (fun M' => M' = f_X12_added k1 k2 k3 M) (mm_U D b0 r) (fun q => b0 ≤ q)) args s 0 0 (fun q => b0 ≤ q)) (F0 m 2 ls []) := by
    intro k
    induction k with
    | zero =>
      intro t ht H locs ls w hl
      obtain rfl : 16 = t := by omega
      obtain ⟨M_1, eM_1⟩ : ∃ zz, zz = f_X12_added_L2 k1 k2 k3 M 16 := ⟨_, rfl⟩
      rw [← eM_1] at w
      refine lv_iload_n C.1 C.2.1 dX12_added_2 rfl (lv_at hl 0 rfl) ?_
      refine lv_bipush (v := 16) C.1 C.2.1 dX12_added_3 (by decide) ?_
      refine m_icmp_ge (tgt := 24) (a := 16) (b := 16) C (by omega) (by omega) dX12_added_5 (by decide) (fun _ => ?_) (fun h_2 => absurd h_2 (by omega))
      exact m_vret C w (by subst eM_1; exact Eq.symm (rfl)) dX12_added_24
    | succ k ih =>
      intro t ht H locs ls w hl
      obtain ⟨M_3, eM_3⟩ : ∃ zz, zz = f_X12_added_L2 k1 k2 k3 M t := ⟨_, rfl⟩
      rw [← eM_3] at w
      refine lv_iload_n C.1 C.2.1 dX12_added_2 rfl (lv_at hl 0 rfl) ?_
      refine lv_bipush (v := 16) C.1 C.2.1 dX12_added_3 (by decide) ?_
      refine m_icmp_ge (tgt := 24) (a := t) (b := 16) C (by omega) (by omega) dX12_added_5 (by decide) (fun h_4 => absurd h_4 (by omega)) (fun _ => ?_)
      refine lv_aload_n C.1 C.2.1 dX12_added_8 rfl (lv_at hl 1 rfl) ?_
      refine lv_iload_n C.1 C.2.1 dX12_added_9 rfl (lv_at hl 0 rfl) ?_
      refine lv_aload_n C.1 C.2.1 dX12_added_10 rfl (lv_at hl 2 rfl) ?_
      refine lv_iload_n C.1 C.2.1 dX12_added_11 rfl (lv_at hl 0 rfl) ?_
      refine m_lald C w (k := k2) (i := t) (n := n2) (wr := w2) hk2 hs2 (by omega) hn2 dX12_added_12 ?_
      refine lv_aload_n C.1 C.2.1 dX12_added_13 rfl (lv_at hl 3 rfl) ?_
      refine lv_iload_n C.1 C.2.1 dX12_added_14 rfl (lv_at hl 0 rfl) ?_
      refine m_lald C w (k := k3) (i := t) (n := n3) (wr := w3) hk3 hs3 (by omega) hn3 dX12_added_15 ?_
      refine lv_ladd C.1 C.2.1 dX12_added_16 ?_
      refine m_last C w (k := k1) (i := t) (n := n1) (x := ((M_3.2 k2 t) + (M_3.2 k3 t))) hk1 hs1 (by omega) hn1 dX12_added_17 (fun H locs w => ?_)
      obtain ⟨M_5, eM_5⟩ : ∃ zz, zz = mm_wl M_3 k1 t ((M_3.2 k2 t) + (M_3.2 k3 t)) := ⟨_, rfl⟩
      rw [← eM_5] at w
      refine lv_iinc (v := (nI (t + 1))) (lv' := [(3, .int (nI (t + 1))), (0, .ref (r (k1))), (1, .ref (r (k2))), (2, .ref (r (k3)))]) C.1 C.2.1 dX12_added_18 hl (k := 0) rfl (nI_add t 1) (by decide) rfl (fun ls hl => ?_)
      refine lv_goto (tgt := 2) C.1 C.2.1 dX12_added_21 (by decide) ?_
      have h9 : lv_has ls 4 [(3, .int (nI (t + 1))), (0, .ref (r (k1))), (1, .ref (r (k2))), (2, .ref (r (k3)))] := lv_sub hl [0, 1, 2, 3] rfl
      have hlZ : lv_has ls 4 [(3, .int (nI (t + 1))), (0, .ref (r (k1))), (1, .ref (r (k2))), (2, .ref (r (k3)))] := h9
      have wZ := w
      subst eM_3 eM_5
      refine ih (t + 1) (by omega) _ _ _ (wZ) ?_
      exact hlZ
  exact loop 16 0 (by omega) _ _ ls w hl

def f_X12_less_L2 (k1 : Nat) (k2 : Nat) (k3 : Nat) (σ : mm_M) : Nat → mm_M
  | 0 => σ
  | t + 1 =>
  let M_3 := f_X12_less_L2 k1 k2 k3 σ t
  let M_5 := mm_wl M_3 k1 t ((M_3.2 k2 t) - (M_3.2 k3 t))
  M_5
theorem w_f_X12_less_L2 (k1 : Nat) (k2 : Nat) (k3 : Nat) (σ : mm_M) : ∀ t : Nat, mm_fr [k1] σ (f_X12_less_L2 k1 k2 k3 σ t)
  | 0 => mm_fr_refl _ _
  | t + 1 => have ih := w_f_X12_less_L2 k1 k2 k3 σ t
    (mm_fr_wl (by simp) ih)
def f_X12_less (k1 : Nat) (k2 : Nat) (k3 : Nat) (M : mm_M) : mm_M :=
  let M_1 := f_X12_less_L2 k1 k2 k3 M 16
  M_1
theorem w_f_X12_less (k1 : Nat) (k2 : Nat) (k3 : Nat) (M : mm_M) : mm_fr [k1] M (f_X12_less k1 k2 k3 M) := by
  unfold f_X12_less
  exact ((w_f_X12_less_L2 _ _ _ _ 16).on (by simp) (mm_fr_refl _ _))
set_option maxHeartbeats 4000000 in
set_option maxRecDepth 100000 in
theorem c_X12_less (l : Launch) (D : va_G) (b0 : Nat) (r : Nat → Nat) (M : mm_M) (k1 : Nat) (k2 : Nat) (k3 : Nat) {n1 : Nat} (hk1 : k1 < 173) (hs1 : mm_sh k1 = .inl (.long, n1, true)) (hn1 : n1 < 2 ^ 31) (hp1 : 16 ≤ n1) {n2 : Nat} {w2 : Bool} (hk2 : k2 < 181) (hs2 : mm_sh k2 = .inl (.long, n2, w2)) (hn2 : n2 < 2 ^ 31) (hp2 : 16 ≤ n2) {n3 : Nat} {w3 : Bool} (hk3 : k3 < 181) (hs3 : mm_sh k3 = .inl (.long, n3, w3)) (hn3 : n3 < 2 ^ 31) (hp3 : 16 ≤ n3) : mm_Mv l yX12_less cX12_less 4 0 0 D b0 r [.ref (r (k1)), .ref (r (k2)), .ref (r (k3))] M (fun M' => M' = f_X12_less k1 k2 k3 M) := by
  refine mm_enter (cc := cX12_less) (nL := 4) (ret := none) (by decide) (Nat.le_of_ble_eq_true rfl) ?_
  intro p e s m args below meth c C w ls hl
  have hl : lv_has ls 4 [(0, .ref (r (k1))), (1, .ref (r (k2))), (2, .ref (r (k3)))] := hl
  refine lv_iconst (v := 0) C.1 C.2.1 dX12_less_0 (by decide) ?_
  refine lv_istore_n (lv' := [(3, .int 0), (0, .ref (r (k1))), (1, .ref (r (k2))), (2, .ref (r (k3)))]) C.1 C.2.1 dX12_less_1 rfl hl (by decide) rfl (fun ls hl => ?_)
  have loop : ∀ (k t : Nat), t + k = 16 → ∀ (H : Heap) (locs : List Loc) (ls : Array Slot), mm_W D b0 r (f_X12_less_L2 k1 k2 k3 M t) s H locs → lv_has ls 4 [(3, .int (nI (t))), (0, .ref (r (k1))), (1, .ref (r (k2))), (2, .ref (r (k3)))] → W p l e (mm_rm 0 0) s m args below meth c H locs 0 0 (MQ below (va_Qv (fun M' => M' = f_X12_less k1 k2 k3 M) (mm_U D b0 r) (fun q => b0 ≤ q)) args s 0 0 (fun q => b0 ≤ q)) (F0 m 2 ls []) := by
    intro k
    induction k with
    | zero =>
      intro t ht H locs ls w hl
      obtain rfl : 16 = t := by omega
      obtain ⟨M_1, eM_1⟩ : ∃ zz, zz = f_X12_less_L2 k1 k2 k3 M 16 := ⟨_, rfl⟩
      rw [← eM_1] at w
      refine lv_iload_n C.1 C.2.1 dX12_less_2 rfl (lv_at hl 0 rfl) ?_
      refine lv_bipush (v := 16) C.1 C.2.1 dX12_less_3 (by decide) ?_
      refine m_icmp_ge (tgt := 24) (a := 16) (b := 16) C (by omega) (by omega) dX12_less_5 (by decide) (fun _ => ?_) (fun h_2 => absurd h_2 (by omega))
      exact m_vret C w (by subst eM_1; exact Eq.symm (rfl)) dX12_less_24
    | succ k ih =>
      intro t ht H locs ls w hl
      obtain ⟨M_3, eM_3⟩ : ∃ zz, zz = f_X12_less_L2 k1 k2 k3 M t := ⟨_, rfl⟩
      rw [← eM_3] at w
      refine lv_iload_n C.1 C.2.1 dX12_less_2 rfl (lv_at hl 0 rfl) ?_
      refine lv_bipush (v := 16) C.1 C.2.1 dX12_less_3 (by decide) ?_
      refine m_icmp_ge (tgt := 24) (a := t) (b := 16) C (by omega) (by omega) dX12_less_5 (by decide) (fun h_4 => absurd h_4 (by omega)) (fun _ => ?_)
      refine lv_aload_n C.1 C.2.1 dX12_less_8 rfl (lv_at hl 1 rfl) ?_
      refine lv_iload_n C.1 C.2.1 dX12_less_9 rfl (lv_at hl 0 rfl) ?_
      refine lv_aload_n C.1 C.2.1 dX12_less_10 rfl (lv_at hl 2 rfl) ?_
      refine lv_iload_n C.1 C.2.1 dX12_less_11 rfl (lv_at hl 0 rfl) ?_
      refine m_lald C w (k := k2) (i := t) (n := n2) (wr := w2) hk2 hs2 (by omega) hn2 dX12_less_12 ?_
      refine lv_aload_n C.1 C.2.1 dX12_less_13 rfl (lv_at hl 3 rfl) ?_
      refine lv_iload_n C.1 C.2.1 dX12_less_14 rfl (lv_at hl 0 rfl) ?_
      refine m_lald C w (k := k3) (i := t) (n := n3) (wr := w3) hk3 hs3 (by omega) hn3 dX12_less_15 ?_
      refine lv_lsub C.1 C.2.1 dX12_less_16 ?_
      refine m_last C w (k := k1) (i := t) (n := n1) (x := ((M_3.2 k2 t) - (M_3.2 k3 t))) hk1 hs1 (by omega) hn1 dX12_less_17 (fun H locs w => ?_)
      obtain ⟨M_5, eM_5⟩ : ∃ zz, zz = mm_wl M_3 k1 t ((M_3.2 k2 t) - (M_3.2 k3 t)) := ⟨_, rfl⟩
      rw [← eM_5] at w
      refine lv_iinc (v := (nI (t + 1))) (lv' := [(3, .int (nI (t + 1))), (0, .ref (r (k1))), (1, .ref (r (k2))), (2, .ref (r (k3)))]) C.1 C.2.1 dX12_less_18 hl (k := 0) rfl (nI_add t 1) (by decide) rfl (fun ls hl => ?_)
      refine lv_goto (tgt := 2) C.1 C.2.1 dX12_less_21 (by decide) ?_
      have h9 : lv_has ls 4 [(3, .int (nI (t + 1))), (0, .ref (r (k1))), (1, .ref (r (k2))), (2, .ref (r (k3)))] := lv_sub hl [0, 1, 2, 3] rfl
      have hlZ : lv_has ls 4 [(3, .int (nI (t + 1))), (0, .ref (r (k1))), (1, .ref (r (k2))), (2, .ref (r (k3)))] := h9
      have wZ := w
      subst eM_3 eM_5
      refine ih (t + 1) (by omega) _ _ _ (wZ) ?_
      exact hlZ
  exact loop 16 0 (by omega) _ _ ls w hl

def f_X12_times_L121 (k1 : Nat) (σ : mm_M) : Nat → mm_M
  | 0 => σ
  | t + 1 =>
  let M_11 := f_X12_times_L121 k1 σ t
  let M_13 := mm_wl M_11 k1 t (M_11.2 143 t)
  M_13
theorem w_f_X12_times_L121 (k1 : Nat) (σ : mm_M) : ∀ t : Nat, mm_fr [k1] σ (f_X12_times_L121 k1 σ t)
  | 0 => mm_fr_refl _ _
  | t + 1 => have ih := w_f_X12_times_L121 k1 σ t
    (mm_fr_wl (by simp) ih)
def f_X12_times_L81  (σ : mm_M) : Nat → mm_M
  | 0 => σ
  | t + 1 =>
  let M_14 := f_X12_times_L81 σ t
  let M_16 := mm_wl M_14 143 t ((M_14.2 143 t) + ((38) * (M_14.2 143 (t + 16))))
  M_16
theorem w_f_X12_times_L81  (σ : mm_M) : ∀ t : Nat, mm_fr [143] σ (f_X12_times_L81 σ t)
  | 0 => mm_fr_refl _ _
  | t + 1 => have ih := w_f_X12_times_L81 σ t
    (mm_fr_wl (by simp) ih)
def f_X12_times_L37 (k2 : Nat) (k3 : Nat) (t : Nat) (σ : mm_M) : Nat → mm_M
  | 0 => σ
  | t1 + 1 =>
  let M_21 := f_X12_times_L37 k2 k3 t σ t1
  let M_23 := mm_wl M_21 143 (t + t1) ((M_21.2 143 (t + t1)) + ((M_21.2 k2 t) * (M_21.2 k3 t1)))
  M_23
theorem w_f_X12_times_L37 (k2 : Nat) (k3 : Nat) (t : Nat) (σ : mm_M) : ∀ t1 : Nat, mm_fr [143] σ (f_X12_times_L37 k2 k3 t σ t1)
  | 0 => mm_fr_refl _ _
  | t1 + 1 => have ih := w_f_X12_times_L37 k2 k3 t σ t1
    (mm_fr_wl (by simp) ih)
def f_X12_times_L27 (k2 : Nat) (k3 : Nat) (σ : mm_M) : Nat → mm_M
  | 0 => σ
  | t + 1 =>
  let M_17 := f_X12_times_L27 k2 k3 σ t
  let M_19 := f_X12_times_L37 k2 k3 t M_17 16
  M_19
theorem w_f_X12_times_L27 (k2 : Nat) (k3 : Nat) (σ : mm_M) : ∀ t : Nat, mm_fr [143] σ (f_X12_times_L27 k2 k3 σ t)
  | 0 => mm_fr_refl _ _
  | t + 1 => have ih := w_f_X12_times_L27 k2 k3 σ t
    ((w_f_X12_times_L37 _ _ _ _ 16).on (by simp) ih)
def f_X12_times_L3  (σ : mm_M) : Nat → mm_M
  | 0 => σ
  | t + 1 =>
  let M_24 := f_X12_times_L3 σ t
  let M_26 := mm_wl M_24 143 t (0)
  M_26
theorem w_f_X12_times_L3  (σ : mm_M) : ∀ t : Nat, mm_fr [143] σ (f_X12_times_L3 σ t)
  | 0 => mm_fr_refl _ _
  | t + 1 => have ih := w_f_X12_times_L3 σ t
    (mm_fr_wl (by simp) ih)
def f_X12_times (k1 : Nat) (k2 : Nat) (k3 : Nat) (M : mm_M) : mm_M :=
  let M_1 := f_X12_times_L3 M 31
  let M_3 := f_X12_times_L27 k2 k3 M_1 16
  let M_5 := f_X12_times_L81 M_3 15
  let M_7 := f_X12_times_L121 k1 M_5 16
  let M_9 := f_X12_carried k1 M_7
  let M_10 := f_X12_carried k1 M_9
  M_10
theorem w_f_X12_times (k1 : Nat) (k2 : Nat) (k3 : Nat) (M : mm_M) : mm_fr [k1, 143] M (f_X12_times k1 k2 k3 M) := by
  unfold f_X12_times
  exact ((w_f_X12_carried _ _).on (by simp) ((w_f_X12_carried _ _).on (by simp) ((w_f_X12_times_L121 _ _ 16).on (by simp) ((w_f_X12_times_L81 _ 15).on (by simp) ((w_f_X12_times_L27 _ _ _ 16).on (by simp) ((w_f_X12_times_L3 _ 31).on (by simp) (mm_fr_refl _ _)))))))
set_option maxHeartbeats 4000000 in
set_option maxRecDepth 100000 in
theorem c_X12_times (l : Launch) (D : va_G) (b0 : Nat) (r : Nat → Nat) (M : mm_M) (k1 : Nat) (k2 : Nat) (k3 : Nat) {n1 : Nat} (hk1 : k1 < 173) (hs1 : mm_sh k1 = .inl (.long, n1, true)) (hn1 : n1 < 2 ^ 31) (hp1 : 16 ≤ n1) {n2 : Nat} {w2 : Bool} (hk2 : k2 < 181) (hs2 : mm_sh k2 = .inl (.long, n2, w2)) (hn2 : n2 < 2 ^ 31) (hp2 : 16 ≤ n2) {n3 : Nat} {w3 : Bool} (hk3 : k3 < 181) (hs3 : mm_sh k3 = .inl (.long, n3, w3)) (hn3 : n3 < 2 ^ 31) (hp3 : 16 ≤ n3) : mm_Mv l yX12_times cX12_times 6 1 23 D b0 r [.ref (r (117)), .ref (r (k1)), .ref (r (k2)), .ref (r (k3))] M (fun M' => M' = f_X12_times k1 k2 k3 M) := by
  refine mm_enter (cc := cX12_times) (nL := 6) (ret := none) (by decide) (Nat.le_of_ble_eq_true rfl) ?_
  intro p e s m args below meth c C w ls hl
  have hl : lv_has ls 6 [(0, .ref (r (117))), (1, .ref (r (k1))), (2, .ref (r (k2))), (3, .ref (r (k3)))] := hl
  refine lv_iconst (v := 0) C.1 C.2.1 dX12_times_0 (by decide) ?_
  refine lv_istore (lv' := [(4, .int 0), (0, .ref (r (117))), (1, .ref (r (k1))), (2, .ref (r (k2))), (3, .ref (r (k3)))]) C.1 C.2.1 dX12_times_1 hl (by decide) rfl (fun ls hl => ?_)
  have loop : ∀ (k t : Nat), t + k = 31 → ∀ (H : Heap) (locs : List Loc) (ls : Array Slot), mm_W D b0 r (f_X12_times_L3 M t) s H locs → lv_has ls 6 [(4, .int (nI (t))), (0, .ref (r (117))), (1, .ref (r (k1))), (2, .ref (r (k2))), (3, .ref (r (k3)))] → W p l e (mm_rm 1 23) s m args below meth c H locs 0 0 (MQ below (va_Qv (fun M' => M' = f_X12_times k1 k2 k3 M) (mm_U D b0 r) (fun q => b0 ≤ q)) args s 0 0 (fun q => b0 ≤ q)) (F0 m 3 ls []) := by
    intro k
    induction k with
    | zero =>
      intro t ht H locs ls w hl
      obtain rfl : 31 = t := by omega
      obtain ⟨M_1, eM_1⟩ : ∃ zz, zz = f_X12_times_L3 M 31 := ⟨_, rfl⟩
      rw [← eM_1] at w
      refine lv_iload C.1 C.2.1 dX12_times_3 (lv_at hl 0 rfl) ?_
      refine lv_bipush (v := 31) C.1 C.2.1 dX12_times_5 (by decide) ?_
      refine m_icmp_ge (tgt := 24) (a := 31) (b := 31) C (by omega) (by omega) dX12_times_7 (by decide) (fun _ => ?_) (fun h_2 => absurd h_2 (by omega))
      refine lv_iconst (v := 0) C.1 C.2.1 dX12_times_24 (by decide) ?_
      refine lv_istore (lv' := [(4, .int 0), (0, .ref (r (117))), (1, .ref (r (k1))), (2, .ref (r (k2))), (3, .ref (r (k3)))]) C.1 C.2.1 dX12_times_25 hl (by decide) rfl (fun ls hl => ?_)
      have loop : ∀ (k t : Nat), t + k = 16 → ∀ (H : Heap) (locs : List Loc) (ls : Array Slot), mm_W D b0 r (f_X12_times_L27 k2 k3 M_1 t) s H locs → lv_has ls 6 [(4, .int (nI (t))), (0, .ref (r (117))), (1, .ref (r (k1))), (2, .ref (r (k2))), (3, .ref (r (k3)))] → W p l e (mm_rm 1 23) s m args below meth c H locs 0 0 (MQ below (va_Qv (fun M' => M' = f_X12_times k1 k2 k3 M) (mm_U D b0 r) (fun q => b0 ≤ q)) args s 0 0 (fun q => b0 ≤ q)) (F0 m 27 ls []) := by
        intro k
        induction k with
        | zero =>
          intro t ht H locs ls w hl
          obtain rfl : 16 = t := by omega
          obtain ⟨M_3, eM_3⟩ : ∃ zz, zz = f_X12_times_L27 k2 k3 M_1 16 := ⟨_, rfl⟩
          rw [← eM_3] at w
          refine lv_iload C.1 C.2.1 dX12_times_27 (lv_at hl 0 rfl) ?_
          refine lv_bipush (v := 16) C.1 C.2.1 dX12_times_29 (by decide) ?_
          refine m_icmp_ge (tgt := 78) (a := 16) (b := 16) C (by omega) (by omega) dX12_times_31 (by decide) (fun _ => ?_) (fun h_4 => absurd h_4 (by omega))
          refine lv_iconst (v := 0) C.1 C.2.1 dX12_times_78 (by decide) ?_
          refine lv_istore (lv' := [(4, .int 0), (0, .ref (r (117))), (1, .ref (r (k1))), (2, .ref (r (k2))), (3, .ref (r (k3)))]) C.1 C.2.1 dX12_times_79 hl (by decide) rfl (fun ls hl => ?_)
          have loop : ∀ (k t : Nat), t + k = 15 → ∀ (H : Heap) (locs : List Loc) (ls : Array Slot), mm_W D b0 r (f_X12_times_L81 M_3 t) s H locs → lv_has ls 6 [(4, .int (nI (t))), (0, .ref (r (117))), (1, .ref (r (k1))), (2, .ref (r (k2))), (3, .ref (r (k3)))] → W p l e (mm_rm 1 23) s m args below meth c H locs 0 0 (MQ below (va_Qv (fun M' => M' = f_X12_times k1 k2 k3 M) (mm_U D b0 r) (fun q => b0 ≤ q)) args s 0 0 (fun q => b0 ≤ q)) (F0 m 81 ls []) := by
            intro k
            induction k with
            | zero =>
              intro t ht H locs ls w hl
              obtain rfl : 15 = t := by omega
              obtain ⟨M_5, eM_5⟩ : ∃ zz, zz = f_X12_times_L81 M_3 15 := ⟨_, rfl⟩
              rw [← eM_5] at w
              refine lv_iload C.1 C.2.1 dX12_times_81 (lv_at hl 0 rfl) ?_
              refine lv_bipush (v := 15) C.1 C.2.1 dX12_times_83 (by decide) ?_
              refine m_icmp_ge (tgt := 118) (a := 15) (b := 15) C (by omega) (by omega) dX12_times_85 (by decide) (fun _ => ?_) (fun h_6 => absurd h_6 (by omega))
              refine lv_iconst (v := 0) C.1 C.2.1 dX12_times_118 (by decide) ?_
              refine lv_istore (lv' := [(4, .int 0), (0, .ref (r (117))), (1, .ref (r (k1))), (2, .ref (r (k2))), (3, .ref (r (k3)))]) C.1 C.2.1 dX12_times_119 hl (by decide) rfl (fun ls hl => ?_)
              have loop : ∀ (k t : Nat), t + k = 16 → ∀ (H : Heap) (locs : List Loc) (ls : Array Slot), mm_W D b0 r (f_X12_times_L121 k1 M_5 t) s H locs → lv_has ls 6 [(4, .int (nI (t))), (0, .ref (r (117))), (1, .ref (r (k1))), (2, .ref (r (k2))), (3, .ref (r (k3)))] → W p l e (mm_rm 1 23) s m args below meth c H locs 0 0 (MQ below (va_Qv (fun M' => M' = f_X12_times k1 k2 k3 M) (mm_U D b0 r) (fun q => b0 ≤ q)) args s 0 0 (fun q => b0 ≤ q)) (F0 m 121 ls []) := by
                intro k
                induction k with
                | zero =>
                  intro t ht H locs ls w hl
                  obtain rfl : 16 = t := by omega
                  obtain ⟨M_7, eM_7⟩ : ∃ zz, zz = f_X12_times_L121 k1 M_5 16 := ⟨_, rfl⟩
                  rw [← eM_7] at w
                  refine lv_iload C.1 C.2.1 dX12_times_121 (lv_at hl 0 rfl) ?_
                  refine lv_bipush (v := 16) C.1 C.2.1 dX12_times_123 (by decide) ?_
                  refine m_icmp_ge (tgt := 145) (a := 16) (b := 16) C (by omega) (by omega) dX12_times_125 (by decide) (fun _ => ?_) (fun h_8 => absurd h_8 (by omega))
                  refine lv_aload_n C.1 C.2.1 dX12_times_145 rfl (lv_at hl 2 rfl) ?_
                  refine m_csv C w hl csX12_283 (As := [.ref (r (k1))]) (rest := []) (c_X12_carried l D b0 r M_7 k1 hk1 hs1 hn1 (by omega)) rfl rfl (Nat.le_of_ble_eq_true rfl) ⟨Nat.le_of_ble_eq_true rfl, Nat.le_of_ble_eq_true rfl⟩ ⟨Nat.zero_le _, Nat.zero_le _⟩ dX12_times_146 (fun M_9 H locs eM_9 w => ?_)
                  refine lv_aload_n C.1 C.2.1 dX12_times_149 rfl (lv_at hl 2 rfl) ?_
                  refine m_csv C w hl csX12_283 (As := [.ref (r (k1))]) (rest := []) (c_X12_carried l D b0 r M_9 k1 hk1 hs1 hn1 (by omega)) rfl rfl (Nat.le_of_ble_eq_true rfl) ⟨Nat.le_of_ble_eq_true rfl, Nat.le_of_ble_eq_true rfl⟩ ⟨Nat.zero_le _, Nat.zero_le _⟩ dX12_times_150 (fun M_10 H locs eM_10 w => ?_)
                  exact m_vret C w (by subst eM_1 eM_3 eM_5 eM_7 eM_9 eM_10; exact Eq.symm (rfl)) dX12_times_153
                | succ k ih =>
                  intro t ht H locs ls w hl
                  obtain ⟨M_11, eM_11⟩ : ∃ zz, zz = f_X12_times_L121 k1 M_5 t := ⟨_, rfl⟩
                  rw [← eM_11] at w
                  refine lv_iload C.1 C.2.1 dX12_times_121 (lv_at hl 0 rfl) ?_
                  refine lv_bipush (v := 16) C.1 C.2.1 dX12_times_123 (by decide) ?_
                  refine m_icmp_ge (tgt := 145) (a := t) (b := 16) C (by omega) (by omega) dX12_times_125 (by decide) (fun h_12 => absurd h_12 (by omega)) (fun _ => ?_)
                  refine lv_aload_n C.1 C.2.1 dX12_times_128 rfl (lv_at hl 2 rfl) ?_
                  refine lv_iload C.1 C.2.1 dX12_times_129 (lv_at hl 0 rfl) ?_
                  refine lv_aload_n C.1 C.2.1 dX12_times_131 rfl (lv_at hl 1 rfl) ?_
                  refine m_get C w (k := 117) (j := 28) (v := .ref (r (143))) flX12_159 (by decide) rfl rfl dX12_times_132 ?_
                  refine lv_iload C.1 C.2.1 dX12_times_135 (lv_at hl 0 rfl) ?_
                  refine m_lald C w (k := 143) (i := t) (n := 31) (wr := true) (by decide) rfl (by omega) (by decide) dX12_times_137 ?_
                  refine m_last C w (k := k1) (i := t) (n := n1) (x := (M_11.2 143 t)) hk1 hs1 (by omega) hn1 dX12_times_138 (fun H locs w => ?_)
                  obtain ⟨M_13, eM_13⟩ : ∃ zz, zz = mm_wl M_11 k1 t (M_11.2 143 t) := ⟨_, rfl⟩
                  rw [← eM_13] at w
                  refine lv_iinc (v := (nI (t + 1))) (lv' := [(4, .int (nI (t + 1))), (0, .ref (r (117))), (1, .ref (r (k1))), (2, .ref (r (k2))), (3, .ref (r (k3)))]) C.1 C.2.1 dX12_times_139 hl (k := 0) rfl (nI_add t 1) (by decide) rfl (fun ls hl => ?_)
                  refine lv_goto (tgt := 121) C.1 C.2.1 dX12_times_142 (by decide) ?_
                  have h9 : lv_has ls 6 [(4, .int (nI (t + 1))), (0, .ref (r (117))), (1, .ref (r (k1))), (2, .ref (r (k2))), (3, .ref (r (k3)))] := lv_sub hl [0, 1, 2, 3, 4] rfl
                  have hlZ : lv_has ls 6 [(4, .int (nI (t + 1))), (0, .ref (r (117))), (1, .ref (r (k1))), (2, .ref (r (k2))), (3, .ref (r (k3)))] := h9
                  have wZ := w
                  subst eM_11 eM_13
                  refine ih (t + 1) (by omega) _ _ _ (wZ) ?_
                  exact hlZ
              exact loop 16 0 (by omega) _ _ ls w hl
            | succ k ih =>
              intro t ht H locs ls w hl
              obtain ⟨M_14, eM_14⟩ : ∃ zz, zz = f_X12_times_L81 M_3 t := ⟨_, rfl⟩
              rw [← eM_14] at w
              refine lv_iload C.1 C.2.1 dX12_times_81 (lv_at hl 0 rfl) ?_
              refine lv_bipush (v := 15) C.1 C.2.1 dX12_times_83 (by decide) ?_
              refine m_icmp_ge (tgt := 118) (a := t) (b := 15) C (by omega) (by omega) dX12_times_85 (by decide) (fun h_15 => absurd h_15 (by omega)) (fun _ => ?_)
              refine lv_aload_n C.1 C.2.1 dX12_times_88 rfl (lv_at hl 1 rfl) ?_
              refine m_get C w (k := 117) (j := 28) (v := .ref (r (143))) flX12_159 (by decide) rfl rfl dX12_times_89 ?_
              refine lv_iload C.1 C.2.1 dX12_times_92 (lv_at hl 0 rfl) ?_
              refine lv_dup2_11 C.1 C.2.1 dX12_times_94 rfl rfl ?_
              refine m_lald C w (k := 143) (i := t) (n := 31) (wr := true) (by decide) rfl (by omega) (by decide) dX12_times_95 ?_
              refine lv_ldc2 (v := (38)) C.1 C.2.1 C.2.2.2.1 (C.2.2.2.2.1 _ klX12_281) dX12_times_96 ?_
              refine lv_aload_n C.1 C.2.1 dX12_times_99 rfl (lv_at hl 1 rfl) ?_
              refine m_get C w (k := 117) (j := 28) (v := .ref (r (143))) flX12_159 (by decide) rfl rfl dX12_times_100 ?_
              refine lv_iload C.1 C.2.1 dX12_times_103 (lv_at hl 0 rfl) ?_
              refine lv_bipush (v := 16) C.1 C.2.1 dX12_times_105 (by decide) ?_
              refine lv_iadd C.1 C.2.1 dX12_times_107 ?_
              refine m_i (y := nI (t + 16)) (nI_add t 16) ?_
              refine m_lald C w (k := 143) (i := t + 16) (n := 31) (wr := true) (by decide) rfl (by omega) (by decide) dX12_times_108 ?_
              refine lv_lmul C.1 C.2.1 dX12_times_109 ?_
              refine lv_ladd C.1 C.2.1 dX12_times_110 ?_
              refine m_last C w (k := 143) (i := t) (n := 31) (x := ((M_14.2 143 t) + ((38) * (M_14.2 143 (t + 16))))) (by decide) rfl (by omega) (by decide) dX12_times_111 (fun H locs w => ?_)
              obtain ⟨M_16, eM_16⟩ : ∃ zz, zz = mm_wl M_14 143 t ((M_14.2 143 t) + ((38) * (M_14.2 143 (t + 16)))) := ⟨_, rfl⟩
              rw [← eM_16] at w
              refine lv_iinc (v := (nI (t + 1))) (lv' := [(4, .int (nI (t + 1))), (0, .ref (r (117))), (1, .ref (r (k1))), (2, .ref (r (k2))), (3, .ref (r (k3)))]) C.1 C.2.1 dX12_times_112 hl (k := 0) rfl (nI_add t 1) (by decide) rfl (fun ls hl => ?_)
              refine lv_goto (tgt := 81) C.1 C.2.1 dX12_times_115 (by decide) ?_
              have h9 : lv_has ls 6 [(4, .int (nI (t + 1))), (0, .ref (r (117))), (1, .ref (r (k1))), (2, .ref (r (k2))), (3, .ref (r (k3)))] := lv_sub hl [0, 1, 2, 3, 4] rfl
              have hlZ : lv_has ls 6 [(4, .int (nI (t + 1))), (0, .ref (r (117))), (1, .ref (r (k1))), (2, .ref (r (k2))), (3, .ref (r (k3)))] := h9
              have wZ := w
              subst eM_14 eM_16
              refine ih (t + 1) (by omega) _ _ _ (wZ) ?_
              exact hlZ
          exact loop 15 0 (by omega) _ _ ls w hl
        | succ k ih =>
          intro t ht H locs ls w hl
          obtain ⟨M_17, eM_17⟩ : ∃ zz, zz = f_X12_times_L27 k2 k3 M_1 t := ⟨_, rfl⟩
          rw [← eM_17] at w
          refine lv_iload C.1 C.2.1 dX12_times_27 (lv_at hl 0 rfl) ?_
          refine lv_bipush (v := 16) C.1 C.2.1 dX12_times_29 (by decide) ?_
          refine m_icmp_ge (tgt := 78) (a := t) (b := 16) C (by omega) (by omega) dX12_times_31 (by decide) (fun h_18 => absurd h_18 (by omega)) (fun _ => ?_)
          refine lv_iconst (v := 0) C.1 C.2.1 dX12_times_34 (by decide) ?_
          refine lv_istore (lv' := [(5, .int 0), (4, .int (nI (t))), (0, .ref (r (117))), (1, .ref (r (k1))), (2, .ref (r (k2))), (3, .ref (r (k3)))]) C.1 C.2.1 dX12_times_35 hl (by decide) rfl (fun ls hl => ?_)
          have loop1 : ∀ (k t1 : Nat), t1 + k = 16 → ∀ (H : Heap) (locs : List Loc) (ls : Array Slot), mm_W D b0 r (f_X12_times_L37 k2 k3 t M_17 t1) s H locs → lv_has ls 6 [(5, .int (nI (t1))), (4, .int (nI (t))), (0, .ref (r (117))), (1, .ref (r (k1))), (2, .ref (r (k2))), (3, .ref (r (k3)))] → W p l e (mm_rm 1 23) s m args below meth c H locs 0 0 (MQ below (va_Qv (fun M' => M' = f_X12_times k1 k2 k3 M) (mm_U D b0 r) (fun q => b0 ≤ q)) args s 0 0 (fun q => b0 ≤ q)) (F0 m 37 ls []) := by
            intro k
            induction k with
            | zero =>
              intro t1 ht1 H locs ls w hl
              obtain rfl : 16 = t1 := by omega
              obtain ⟨M_19, eM_19⟩ : ∃ zz, zz = f_X12_times_L37 k2 k3 t M_17 16 := ⟨_, rfl⟩
              rw [← eM_19] at w
              refine lv_iload C.1 C.2.1 dX12_times_37 (lv_at hl 0 rfl) ?_
              refine lv_bipush (v := 16) C.1 C.2.1 dX12_times_39 (by decide) ?_
              refine m_icmp_ge (tgt := 72) (a := 16) (b := 16) C (by omega) (by omega) dX12_times_41 (by decide) (fun _ => ?_) (fun h_20 => absurd h_20 (by omega))
              refine lv_iinc (v := (nI (t + 1))) (lv' := [(4, .int (nI (t + 1))), (5, .int (nI (16))), (0, .ref (r (117))), (1, .ref (r (k1))), (2, .ref (r (k2))), (3, .ref (r (k3)))]) C.1 C.2.1 dX12_times_72 hl (k := 1) rfl (nI_add t 1) (by decide) rfl (fun ls hl => ?_)
              refine lv_goto (tgt := 27) C.1 C.2.1 dX12_times_75 (by decide) ?_
              have h9 : lv_has ls 6 [(4, .int (nI (t + 1))), (0, .ref (r (117))), (1, .ref (r (k1))), (2, .ref (r (k2))), (3, .ref (r (k3)))] := lv_sub hl [0, 2, 3, 4, 5] rfl
              have hlZ : lv_has ls 6 [(4, .int (nI (t + 1))), (0, .ref (r (117))), (1, .ref (r (k1))), (2, .ref (r (k2))), (3, .ref (r (k3)))] := h9
              have wZ := w
              subst eM_17 eM_19
              refine ih (t + 1) (by omega) _ _ _ (wZ) ?_
              exact hlZ
            | succ k ih =>
              intro t1 ht1 H locs ls w hl
              obtain ⟨M_21, eM_21⟩ : ∃ zz, zz = f_X12_times_L37 k2 k3 t M_17 t1 := ⟨_, rfl⟩
              rw [← eM_21] at w
              refine lv_iload C.1 C.2.1 dX12_times_37 (lv_at hl 0 rfl) ?_
              refine lv_bipush (v := 16) C.1 C.2.1 dX12_times_39 (by decide) ?_
              refine m_icmp_ge (tgt := 72) (a := t1) (b := 16) C (by omega) (by omega) dX12_times_41 (by decide) (fun h_22 => absurd h_22 (by omega)) (fun _ => ?_)
              refine lv_aload_n C.1 C.2.1 dX12_times_44 rfl (lv_at hl 2 rfl) ?_
              refine m_get C w (k := 117) (j := 28) (v := .ref (r (143))) flX12_159 (by decide) rfl rfl dX12_times_45 ?_
              refine lv_iload C.1 C.2.1 dX12_times_48 (lv_at hl 1 rfl) ?_
              refine lv_iload C.1 C.2.1 dX12_times_50 (lv_at hl 0 rfl) ?_
              refine lv_iadd C.1 C.2.1 dX12_times_52 ?_
              refine m_i (y := nI (t + t1)) (nI_add t t1) ?_
              refine lv_dup2_11 C.1 C.2.1 dX12_times_53 rfl rfl ?_
              refine m_lald C w (k := 143) (i := t + t1) (n := 31) (wr := true) (by decide) rfl (by omega) (by decide) dX12_times_54 ?_
              refine lv_aload_n C.1 C.2.1 dX12_times_55 rfl (lv_at hl 4 rfl) ?_
              refine lv_iload C.1 C.2.1 dX12_times_56 (lv_at hl 1 rfl) ?_
              refine m_lald C w (k := k2) (i := t) (n := n2) (wr := w2) hk2 hs2 (by omega) hn2 dX12_times_58 ?_
              refine lv_aload_n C.1 C.2.1 dX12_times_59 rfl (lv_at hl 5 rfl) ?_
              refine lv_iload C.1 C.2.1 dX12_times_60 (lv_at hl 0 rfl) ?_
              refine m_lald C w (k := k3) (i := t1) (n := n3) (wr := w3) hk3 hs3 (by omega) hn3 dX12_times_62 ?_
              refine lv_lmul C.1 C.2.1 dX12_times_63 ?_
              refine lv_ladd C.1 C.2.1 dX12_times_64 ?_
              refine m_last C w (k := 143) (i := t + t1) (n := 31) (x := ((M_21.2 143 (t + t1)) + ((M_21.2 k2 t) * (M_21.2 k3 t1)))) (by decide) rfl (by omega) (by decide) dX12_times_65 (fun H locs w => ?_)
              obtain ⟨M_23, eM_23⟩ : ∃ zz, zz = mm_wl M_21 143 (t + t1) ((M_21.2 143 (t + t1)) + ((M_21.2 k2 t) * (M_21.2 k3 t1))) := ⟨_, rfl⟩
              rw [← eM_23] at w
              refine lv_iinc (v := (nI (t1 + 1))) (lv' := [(5, .int (nI (t1 + 1))), (4, .int (nI (t))), (0, .ref (r (117))), (1, .ref (r (k1))), (2, .ref (r (k2))), (3, .ref (r (k3)))]) C.1 C.2.1 dX12_times_66 hl (k := 0) rfl (nI_add t1 1) (by decide) rfl (fun ls hl => ?_)
              refine lv_goto (tgt := 37) C.1 C.2.1 dX12_times_69 (by decide) ?_
              have h9 : lv_has ls 6 [(5, .int (nI (t1 + 1))), (4, .int (nI (t))), (0, .ref (r (117))), (1, .ref (r (k1))), (2, .ref (r (k2))), (3, .ref (r (k3)))] := lv_sub hl [0, 1, 2, 3, 4, 5] rfl
              have hlZ : lv_has ls 6 [(5, .int (nI (t1 + 1))), (4, .int (nI (t))), (0, .ref (r (117))), (1, .ref (r (k1))), (2, .ref (r (k2))), (3, .ref (r (k3)))] := h9
              have wZ := w
              subst eM_21 eM_23
              refine ih (t1 + 1) (by omega) _ _ _ (wZ) ?_
              exact hlZ
          exact loop1 16 0 (by omega) _ _ ls w hl
      exact loop 16 0 (by omega) _ _ ls w hl
    | succ k ih =>
      intro t ht H locs ls w hl
      obtain ⟨M_24, eM_24⟩ : ∃ zz, zz = f_X12_times_L3 M t := ⟨_, rfl⟩
      rw [← eM_24] at w
      refine lv_iload C.1 C.2.1 dX12_times_3 (lv_at hl 0 rfl) ?_
      refine lv_bipush (v := 31) C.1 C.2.1 dX12_times_5 (by decide) ?_
      refine m_icmp_ge (tgt := 24) (a := t) (b := 31) C (by omega) (by omega) dX12_times_7 (by decide) (fun h_25 => absurd h_25 (by omega)) (fun _ => ?_)
      refine lv_aload_n C.1 C.2.1 dX12_times_10 rfl (lv_at hl 1 rfl) ?_
      refine m_get C w (k := 117) (j := 28) (v := .ref (r (143))) flX12_159 (by decide) rfl rfl dX12_times_11 ?_
      refine lv_iload C.1 C.2.1 dX12_times_14 (lv_at hl 0 rfl) ?_
      refine lv_lconst (v := 0) C.1 C.2.1 dX12_times_16 (by decide) ?_
      refine m_last C w (k := 143) (i := t) (n := 31) (x := (0)) (by decide) rfl (by omega) (by decide) dX12_times_17 (fun H locs w => ?_)
      obtain ⟨M_26, eM_26⟩ : ∃ zz, zz = mm_wl M_24 143 t (0) := ⟨_, rfl⟩
      rw [← eM_26] at w
      refine lv_iinc (v := (nI (t + 1))) (lv' := [(4, .int (nI (t + 1))), (0, .ref (r (117))), (1, .ref (r (k1))), (2, .ref (r (k2))), (3, .ref (r (k3)))]) C.1 C.2.1 dX12_times_18 hl (k := 0) rfl (nI_add t 1) (by decide) rfl (fun ls hl => ?_)
      refine lv_goto (tgt := 3) C.1 C.2.1 dX12_times_21 (by decide) ?_
      have h9 : lv_has ls 6 [(4, .int (nI (t + 1))), (0, .ref (r (117))), (1, .ref (r (k1))), (2, .ref (r (k2))), (3, .ref (r (k3)))] := lv_sub hl [0, 1, 2, 3, 4] rfl
      have hlZ : lv_has ls 6 [(4, .int (nI (t + 1))), (0, .ref (r (117))), (1, .ref (r (k1))), (2, .ref (r (k2))), (3, .ref (r (k3)))] := h9
      have wZ := w
      subst eM_24 eM_26
      refine ih (t + 1) (by omega) _ _ _ (wZ) ?_
      exact hlZ
  exact loop 31 0 (by omega) _ _ ls w hl

def f_X12_inverted_B1 (k2 : Nat) (t : Nat) (M_7 : mm_M) : mm_M :=
  if 253 - t = 4 then (M_7) else (let M_10 := f_X12_times 142 142 k2 M_7
  M_10)
theorem w_f_X12_inverted_B1 (k2 : Nat) (t : Nat) (M_7 : mm_M) : mm_fr [142, 143] M_7 (f_X12_inverted_B1 k2 t M_7) := by
  unfold f_X12_inverted_B1
  exact (mm_fr_ite (fun _ => (mm_fr_refl _ _)) (fun _ => ((w_f_X12_times _ _ _ _).on (by simp) (mm_fr_refl _ _))))
def f_X12_inverted_B2 (k2 : Nat) (t : Nat) (M_7 : mm_M) : mm_M :=
  if 253 - t = 2 then (M_7) else (f_X12_inverted_B1 k2 t M_7)
theorem w_f_X12_inverted_B2 (k2 : Nat) (t : Nat) (M_7 : mm_M) : mm_fr [142, 143] M_7 (f_X12_inverted_B2 k2 t M_7) := by
  unfold f_X12_inverted_B2
  exact (mm_fr_ite (fun _ => (mm_fr_refl _ _)) (fun _ => ((w_f_X12_inverted_B1 _ _ _).on (by simp) (mm_fr_refl _ _))))
def f_X12_inverted_L12 (k2 : Nat) (σ : mm_M) : Nat → mm_M
  | 0 => σ
  | t + 1 =>
  let M_5 := f_X12_inverted_L12 k2 σ t
  let M_7 := f_X12_times 142 142 142 M_5
  f_X12_inverted_B2 k2 t M_7
theorem w_f_X12_inverted_L12 (k2 : Nat) (σ : mm_M) : ∀ t : Nat, mm_fr [142, 143] σ (f_X12_inverted_L12 k2 σ t)
  | 0 => mm_fr_refl _ _
  | t + 1 => have ih := w_f_X12_inverted_L12 k2 σ t
    ((w_f_X12_inverted_B2 _ _ _).on (by simp) ((w_f_X12_times _ _ _ _).on (by simp) ih))
def f_X12_inverted (k1 : Nat) (k2 : Nat) (M : mm_M) : mm_M :=
  let M_1 := f_X12_same 142 k2 M
  let M_2 := f_X12_inverted_L12 k2 M_1 254
  let M_4 := f_X12_same k1 142 M_2
  M_4
theorem w_f_X12_inverted (k1 : Nat) (k2 : Nat) (M : mm_M) : mm_fr [142, k1, 143] M (f_X12_inverted k1 k2 M) := by
  unfold f_X12_inverted
  exact ((w_f_X12_same _ _ _).on (by simp) ((w_f_X12_inverted_L12 _ _ 254).on (by simp) ((w_f_X12_same _ _ _).on (by simp) (mm_fr_refl _ _))))
set_option maxHeartbeats 4000000 in
set_option maxRecDepth 100000 in
theorem c_X12_inverted (l : Launch) (D : va_G) (b0 : Nat) (r : Nat → Nat) (M : mm_M) (k1 : Nat) (k2 : Nat) {n1 : Nat} (hk1 : k1 < 173) (hs1 : mm_sh k1 = .inl (.long, n1, true)) (hn1 : n1 < 2 ^ 31) (hp1 : 16 ≤ n1) {n2 : Nat} {w2 : Bool} (hk2 : k2 < 181) (hs2 : mm_sh k2 = .inl (.long, n2, w2)) (hn2 : n2 < 2 ^ 31) (hp2 : 16 ≤ n2) : mm_Mv l yX12_inverted cX12_inverted 4 2 48 D b0 r [.ref (r (117)), .ref (r (k1)), .ref (r (k2))] M (fun M' => M' = f_X12_inverted k1 k2 M) := by
  refine mm_enter (cc := cX12_inverted) (nL := 4) (ret := none) (by decide) (Nat.le_of_ble_eq_true rfl) ?_
  intro p e s m args below meth c C w ls hl
  have hl : lv_has ls 4 [(0, .ref (r (117))), (1, .ref (r (k1))), (2, .ref (r (k2)))] := hl
  refine lv_aload_n C.1 C.2.1 dX12_inverted_0 rfl (lv_at hl 0 rfl) ?_
  refine m_get C w (k := 117) (j := 27) (v := .ref (r (142))) flX12_156 (by decide) rfl rfl dX12_inverted_1 ?_
  refine lv_aload_n C.1 C.2.1 dX12_inverted_4 rfl (lv_at hl 2 rfl) ?_
  refine m_csv C w hl csX12_287 (As := [.ref (r (142)), .ref (r (k2))]) (rest := []) (c_X12_same l D b0 r M 142 k2 (by decide) rfl (by decide) (by omega) hk2 hs2 hn2 (by omega)) rfl rfl (Nat.le_of_ble_eq_true rfl) ⟨Nat.le_of_ble_eq_true rfl, Nat.le_of_ble_eq_true rfl⟩ ⟨Nat.zero_le _, Nat.zero_le _⟩ dX12_inverted_5 (fun M_1 H locs eM_1 w => ?_)
  refine lv_sipush (v := 253) C.1 C.2.1 dX12_inverted_8 (by decide) ?_
  refine lv_istore_n (lv' := [(3, .int 253), (0, .ref (r (117))), (1, .ref (r (k1))), (2, .ref (r (k2)))]) C.1 C.2.1 dX12_inverted_11 rfl hl (by decide) rfl (fun ls hl => ?_)
  have loop : ∀ (k t : Nat), t + k = 254 → ∀ (H : Heap) (locs : List Loc) (ls : Array Slot), mm_W D b0 r (f_X12_inverted_L12 k2 M_1 t) s H locs → lv_has ls 4 [(3, .int (nI (254 - t) - 1)), (0, .ref (r (117))), (1, .ref (r (k1))), (2, .ref (r (k2)))] → W p l e (mm_rm 2 48) s m args below meth c H locs 0 0 (MQ below (va_Qv (fun M' => M' = f_X12_inverted k1 k2 M) (mm_U D b0 r) (fun q => b0 ≤ q)) args s 0 0 (fun q => b0 ≤ q)) (F0 m 12 ls []) := by
    intro k
    induction k with
    | zero =>
      intro t ht H locs ls w hl
      obtain rfl : 254 = t := by omega
      obtain ⟨M_2, eM_2⟩ : ∃ zz, zz = f_X12_inverted_L12 k2 M_1 254 := ⟨_, rfl⟩
      rw [← eM_2] at w
      refine lv_iload_n C.1 C.2.1 dX12_inverted_12 rfl (lv_at hl 0 rfl) ?_
      refine lv_if_lt (tgt := 61) C.1 C.2.1 dX12_inverted_13 (by decide) (fun _ => ?_) (fun h_3 => absurd h_3 (fun q => q (mm_neg (by omega))))
      refine lv_aload_n C.1 C.2.1 dX12_inverted_61 rfl (lv_at hl 2 rfl) ?_
      refine lv_aload_n C.1 C.2.1 dX12_inverted_62 rfl (lv_at hl 1 rfl) ?_
      refine m_get C w (k := 117) (j := 27) (v := .ref (r (142))) flX12_156 (by decide) rfl rfl dX12_inverted_63 ?_
      refine m_csv C w hl csX12_287 (As := [.ref (r (k1)), .ref (r (142))]) (rest := []) (c_X12_same l D b0 r M_2 k1 142 hk1 hs1 hn1 (by omega) (by decide) rfl (by decide) (by omega)) rfl rfl (Nat.le_of_ble_eq_true rfl) ⟨Nat.le_of_ble_eq_true rfl, Nat.le_of_ble_eq_true rfl⟩ ⟨Nat.zero_le _, Nat.zero_le _⟩ dX12_inverted_66 (fun M_4 H locs eM_4 w => ?_)
      exact m_vret C w (by subst eM_1 eM_2 eM_4; exact Eq.symm (rfl)) dX12_inverted_69
    | succ k ih =>
      intro t ht H locs ls w hl
      obtain ⟨M_5, eM_5⟩ : ∃ zz, zz = f_X12_inverted_L12 k2 M_1 t := ⟨_, rfl⟩
      rw [← eM_5] at w
      rw [mm_dn (n := 254 - t) (m := 253 - t) (by omega)] at hl
      refine lv_iload_n C.1 C.2.1 dX12_inverted_12 rfl (lv_at hl 0 rfl) ?_
      refine lv_if_lt (tgt := 61) C.1 C.2.1 dX12_inverted_13 (by decide) (fun h_6 => absurd h_6 (nI_pos (by omega))) (fun _ => ?_)
      refine lv_aload_n C.1 C.2.1 dX12_inverted_16 rfl (lv_at hl 1 rfl) ?_
      refine lv_aload_n C.1 C.2.1 dX12_inverted_17 rfl (lv_at hl 1 rfl) ?_
      refine m_get C w (k := 117) (j := 27) (v := .ref (r (142))) flX12_156 (by decide) rfl rfl dX12_inverted_18 ?_
      refine lv_aload_n C.1 C.2.1 dX12_inverted_21 rfl (lv_at hl 1 rfl) ?_
      refine m_get C w (k := 117) (j := 27) (v := .ref (r (142))) flX12_156 (by decide) rfl rfl dX12_inverted_22 ?_
      refine lv_aload_n C.1 C.2.1 dX12_inverted_25 rfl (lv_at hl 1 rfl) ?_
      refine m_get C w (k := 117) (j := 27) (v := .ref (r (142))) flX12_156 (by decide) rfl rfl dX12_inverted_26 ?_
      refine m_cvv C w hl cvX12_291 (k := 117) (by decide) rfl (q := (RX12, TX12, 58)) rfl rfl (As := [.ref (r (142)), .ref (r (142)), .ref (r (142))]) (rest := []) (c_X12_times l D b0 r M_5 142 142 142 (by decide) rfl (by decide) (by omega) (by decide) rfl (by decide) (by omega) (by decide) rfl (by decide) (by omega)) rfl rfl (Nat.le_of_ble_eq_true rfl) ⟨Nat.le_of_ble_eq_true rfl, Nat.le_of_ble_eq_true rfl⟩ ⟨Nat.zero_le _, Nat.zero_le _⟩ dX12_inverted_29 (fun M_7 H locs eM_7 w => ?_)
      refine lv_iload_n C.1 C.2.1 dX12_inverted_32 rfl (lv_at hl 0 rfl) ?_
      refine lv_iconst (v := 2) C.1 C.2.1 dX12_inverted_33 (by decide) ?_
      refine m_icmp_eq (tgt := 55) (a := 253 - t) (b := 2) C (by omega) (by omega) dX12_inverted_34 (by decide) (fun h_8 => ?_) (fun h_8 => ?_)
      · refine lv_iinc (v := (nI (254 - (t + 1)) - 1)) (lv' := [(3, .int (nI (254 - (t + 1)) - 1)), (0, .ref (r (117))), (1, .ref (r (k1))), (2, .ref (r (k2)))]) C.1 C.2.1 dX12_inverted_55 hl (k := 0) rfl (mm_dn2 (by omega)) (by decide) rfl (fun ls hl => ?_)
        refine lv_goto (tgt := 12) C.1 C.2.1 dX12_inverted_58 (by decide) ?_
        have h9 : lv_has ls 4 [(3, .int (nI (254 - (t + 1)) - 1)), (0, .ref (r (117))), (1, .ref (r (k1))), (2, .ref (r (k2)))] := lv_sub hl [0, 1, 2, 3] rfl
        have hlZ : lv_has ls 4 [(3, .int (nI (254 - (t + 1)) - 1)), (0, .ref (r (117))), (1, .ref (r (k1))), (2, .ref (r (k2)))] := h9
        have wZ := w
        subst eM_5 eM_7
        refine ih (t + 1) (by omega) _ _ _ (m_w (Eq.symm (congrArg (fun z => z) (show f_X12_inverted_L12 k2 M_1 (t + 1) = _ from ((if_pos h_8).trans rfl)))) wZ) ?_
        exact hlZ
      · refine lv_iload_n C.1 C.2.1 dX12_inverted_37 rfl (lv_at hl 0 rfl) ?_
        refine lv_iconst (v := 4) C.1 C.2.1 dX12_inverted_38 (by decide) ?_
        refine m_icmp_eq (tgt := 55) (a := 253 - t) (b := 4) C (by omega) (by omega) dX12_inverted_39 (by decide) (fun h_9 => ?_) (fun h_9 => ?_)
        · refine lv_iinc (v := (nI (254 - (t + 1)) - 1)) (lv' := [(3, .int (nI (254 - (t + 1)) - 1)), (0, .ref (r (117))), (1, .ref (r (k1))), (2, .ref (r (k2)))]) C.1 C.2.1 dX12_inverted_55 hl (k := 0) rfl (mm_dn2 (by omega)) (by decide) rfl (fun ls hl => ?_)
          refine lv_goto (tgt := 12) C.1 C.2.1 dX12_inverted_58 (by decide) ?_
          have h9 : lv_has ls 4 [(3, .int (nI (254 - (t + 1)) - 1)), (0, .ref (r (117))), (1, .ref (r (k1))), (2, .ref (r (k2)))] := lv_sub hl [0, 1, 2, 3] rfl
          have hlZ : lv_has ls 4 [(3, .int (nI (254 - (t + 1)) - 1)), (0, .ref (r (117))), (1, .ref (r (k1))), (2, .ref (r (k2)))] := h9
          have wZ := w
          subst eM_5 eM_7
          refine ih (t + 1) (by omega) _ _ _ (m_w (Eq.symm (congrArg (fun z => z) (show f_X12_inverted_L12 k2 M_1 (t + 1) = _ from ((if_neg h_8).trans ((if_pos h_9).trans rfl))))) wZ) ?_
          exact hlZ
        · refine lv_aload_n C.1 C.2.1 dX12_inverted_42 rfl (lv_at hl 1 rfl) ?_
          refine lv_aload_n C.1 C.2.1 dX12_inverted_43 rfl (lv_at hl 1 rfl) ?_
          refine m_get C w (k := 117) (j := 27) (v := .ref (r (142))) flX12_156 (by decide) rfl rfl dX12_inverted_44 ?_
          refine lv_aload_n C.1 C.2.1 dX12_inverted_47 rfl (lv_at hl 1 rfl) ?_
          refine m_get C w (k := 117) (j := 27) (v := .ref (r (142))) flX12_156 (by decide) rfl rfl dX12_inverted_48 ?_
          refine lv_aload_n C.1 C.2.1 dX12_inverted_51 rfl (lv_at hl 3 rfl) ?_
          refine m_cvv C w hl cvX12_291 (k := 117) (by decide) rfl (q := (RX12, TX12, 58)) rfl rfl (As := [.ref (r (142)), .ref (r (142)), .ref (r (k2))]) (rest := []) (c_X12_times l D b0 r M_7 142 142 k2 (by decide) rfl (by decide) (by omega) (by decide) rfl (by decide) (by omega) hk2 hs2 hn2 (by omega)) rfl rfl (Nat.le_of_ble_eq_true rfl) ⟨Nat.le_of_ble_eq_true rfl, Nat.le_of_ble_eq_true rfl⟩ ⟨Nat.zero_le _, Nat.zero_le _⟩ dX12_inverted_52 (fun M_10 H locs eM_10 w => ?_)
          refine lv_iinc (v := (nI (254 - (t + 1)) - 1)) (lv' := [(3, .int (nI (254 - (t + 1)) - 1)), (0, .ref (r (117))), (1, .ref (r (k1))), (2, .ref (r (k2)))]) C.1 C.2.1 dX12_inverted_55 hl (k := 0) rfl (mm_dn2 (by omega)) (by decide) rfl (fun ls hl => ?_)
          refine lv_goto (tgt := 12) C.1 C.2.1 dX12_inverted_58 (by decide) ?_
          have h9 : lv_has ls 4 [(3, .int (nI (254 - (t + 1)) - 1)), (0, .ref (r (117))), (1, .ref (r (k1))), (2, .ref (r (k2)))] := lv_sub hl [0, 1, 2, 3] rfl
          have hlZ : lv_has ls 4 [(3, .int (nI (254 - (t + 1)) - 1)), (0, .ref (r (117))), (1, .ref (r (k1))), (2, .ref (r (k2)))] := h9
          have wZ := w
          subst eM_5 eM_7 eM_10
          refine ih (t + 1) (by omega) _ _ _ (m_w (Eq.symm (congrArg (fun z => z) (show f_X12_inverted_L12 k2 M_1 (t + 1) = _ from ((if_neg h_8).trans ((if_neg h_9).trans rfl))))) wZ) ?_
          exact hlZ
  exact loop 254 0 (by omega) _ _ ls w (by have h9 := hl; first | exact h9 | simpa using h9)

def f_X12_packed_L208 (k1 : Nat) (σ : mm_M) : Nat → mm_M
  | 0 => σ
  | t + 1 =>
  let M_9 := f_X12_packed_L208 k1 σ t
  let M_11 := mm_w M_9 k1 (2 * t) (mm_b (((M_9.2 139 t) : Int64).toInt32))
  let M_12 := mm_w M_11 k1 (2 * t + 1) (mm_b ((((M_11.2 139 t) >>> (((8 : Int32)).toInt64 &&& 63)) : Int64).toInt32))
  M_12
theorem w_f_X12_packed_L208 (k1 : Nat) (σ : mm_M) : ∀ t : Nat, mm_fr [k1] σ (f_X12_packed_L208 k1 σ t)
  | 0 => mm_fr_refl _ _
  | t + 1 => have ih := w_f_X12_packed_L208 k1 σ t
    (mm_fr_w (by simp) (mm_fr_w (by simp) ih))
def f_X12_packed_B1 (M_18 : mm_M) : mm_M :=
  if ¬ (lg_cmp (((M_18.2 141 15) >>> (((16 : Int32)).toInt64 &&& 63)) &&& (1)) (1)) = (0 : Int32) then (let M_20 := mm_wl M_18 141 14 ((M_18.2 141 14) &&& (65535))
  let M_22 := f_X12_same 139 141 M_20
  M_22) else (let M_23 := mm_wl M_18 141 14 ((M_18.2 141 14) &&& (65535))
  M_23)
theorem w_f_X12_packed_B1 (M_18 : mm_M) : mm_fr [141, 139] M_18 (f_X12_packed_B1 M_18) := by
  unfold f_X12_packed_B1
  exact (mm_fr_ite (fun _ => ((w_f_X12_same _ _ _).on (by simp) (mm_fr_wl (by simp) (mm_fr_refl _ _)))) (fun _ => (mm_fr_wl (by simp) (mm_fr_refl _ _))))
def f_X12_packed_L55  (σ : mm_M) : Nat → mm_M
  | 0 => σ
  | t1 + 1 =>
  let M_25 := f_X12_packed_L55 σ t1
  let M_27 := mm_wl M_25 141 (1 + t1) (((M_25.2 139 (1 + t1)) - (65535)) - (((M_25.2 141 ((1 + t1) - 1)) >>> (((16 : Int32)).toInt64 &&& 63)) &&& (1)))
  let M_28 := mm_wl M_27 141 ((1 + t1) - 1) ((M_27.2 141 ((1 + t1) - 1)) &&& (65535))
  M_28
theorem w_f_X12_packed_L55  (σ : mm_M) : ∀ t1 : Nat, mm_fr [141] σ (f_X12_packed_L55 σ t1)
  | 0 => mm_fr_refl _ _
  | t1 + 1 => have ih := w_f_X12_packed_L55 σ t1
    (mm_fr_wl (by simp) (mm_fr_wl (by simp) ih))
def f_X12_packed_L31  (σ : mm_M) : Nat → mm_M
  | 0 => σ
  | t + 1 =>
  let M_13 := f_X12_packed_L31 σ t
  let M_15 := mm_wl M_13 141 0 ((M_13.2 139 0) - (65517))
  let M_16 := f_X12_packed_L55 M_15 14
  let M_18 := mm_wl M_16 141 15 (((M_16.2 139 15) - (32767)) - (((M_16.2 141 14) >>> (((16 : Int32)).toInt64 &&& 63)) &&& (1)))
  f_X12_packed_B1 M_18
theorem w_f_X12_packed_L31  (σ : mm_M) : ∀ t : Nat, mm_fr [141, 139] σ (f_X12_packed_L31 σ t)
  | 0 => mm_fr_refl _ _
  | t + 1 => have ih := w_f_X12_packed_L31 σ t
    ((w_f_X12_packed_B1 _).on (by simp) (mm_fr_wl (by simp) ((w_f_X12_packed_L55 _ 14).on (by simp) (mm_fr_wl (by simp) ih))))
def f_X12_packed (k1 : Nat) (k2 : Nat) (M : mm_M) : mm_M :=
  let M_1 := f_X12_same 139 k2 M
  let M_2 := f_X12_carried 139 M_1
  let M_3 := f_X12_carried 139 M_2
  let M_4 := f_X12_carried 139 M_3
  let M_5 := f_X12_packed_L31 M_4 2
  let M_7 := f_X12_packed_L208 k1 M_5 16
  M_7
theorem w_f_X12_packed (k1 : Nat) (k2 : Nat) (M : mm_M) : mm_fr [139, k1, 141] M (f_X12_packed k1 k2 M) := by
  unfold f_X12_packed
  exact ((w_f_X12_packed_L208 _ _ 16).on (by simp) ((w_f_X12_packed_L31 _ 2).on (by simp) ((w_f_X12_carried _ _).on (by simp) ((w_f_X12_carried _ _).on (by simp) ((w_f_X12_carried _ _).on (by simp) ((w_f_X12_same _ _ _).on (by simp) (mm_fr_refl _ _)))))))
set_option maxHeartbeats 4000000 in
set_option maxRecDepth 100000 in
theorem c_X12_packed (l : Launch) (D : va_G) (b0 : Nat) (r : Nat → Nat) (M : mm_M) (k1 : Nat) (k2 : Nat) {n1 : Nat} (hk1 : k1 < 173) (hs1 : mm_sh k1 = .inl (.byte, n1, true)) (hn1 : n1 < 2 ^ 31) (hp1 : 32 ≤ n1) {n2 : Nat} {w2 : Bool} (hk2 : k2 < 181) (hs2 : mm_sh k2 = .inl (.long, n2, w2)) (hn2 : n2 < 2 ^ 31) (hp2 : 16 ≤ n2) : mm_Mv l yX12_packed cX12_packed 5 1 23 D b0 r [.ref (r (117)), .ref (r (k1)), .ref (r (k2))] M (fun M' => M' = f_X12_packed k1 k2 M) := by
  refine mm_enter (cc := cX12_packed) (nL := 5) (ret := none) (by decide) (Nat.le_of_ble_eq_true rfl) ?_
  intro p e s m args below meth c C w ls hl
  have hl : lv_has ls 5 [(0, .ref (r (117))), (1, .ref (r (k1))), (2, .ref (r (k2)))] := hl
  refine lv_aload_n C.1 C.2.1 dX12_packed_0 rfl (lv_at hl 0 rfl) ?_
  refine m_get C w (k := 117) (j := 24) (v := .ref (r (139))) flX12_147 (by decide) rfl rfl dX12_packed_1 ?_
  refine lv_aload_n C.1 C.2.1 dX12_packed_4 rfl (lv_at hl 2 rfl) ?_
  refine m_csv C w hl csX12_287 (As := [.ref (r (139)), .ref (r (k2))]) (rest := []) (c_X12_same l D b0 r M 139 k2 (by decide) rfl (by decide) (by omega) hk2 hs2 hn2 (by omega)) rfl rfl (Nat.le_of_ble_eq_true rfl) ⟨Nat.le_of_ble_eq_true rfl, Nat.le_of_ble_eq_true rfl⟩ ⟨Nat.zero_le _, Nat.zero_le _⟩ dX12_packed_5 (fun M_1 H locs eM_1 w => ?_)
  refine lv_aload_n C.1 C.2.1 dX12_packed_8 rfl (lv_at hl 0 rfl) ?_
  refine m_get C w (k := 117) (j := 24) (v := .ref (r (139))) flX12_147 (by decide) rfl rfl dX12_packed_9 ?_
  refine m_csv C w hl csX12_283 (As := [.ref (r (139))]) (rest := []) (c_X12_carried l D b0 r M_1 139 (by decide) rfl (by decide) (by omega)) rfl rfl (Nat.le_of_ble_eq_true rfl) ⟨Nat.le_of_ble_eq_true rfl, Nat.le_of_ble_eq_true rfl⟩ ⟨Nat.zero_le _, Nat.zero_le _⟩ dX12_packed_12 (fun M_2 H locs eM_2 w => ?_)
  refine lv_aload_n C.1 C.2.1 dX12_packed_15 rfl (lv_at hl 0 rfl) ?_
  refine m_get C w (k := 117) (j := 24) (v := .ref (r (139))) flX12_147 (by decide) rfl rfl dX12_packed_16 ?_
  refine m_csv C w hl csX12_283 (As := [.ref (r (139))]) (rest := []) (c_X12_carried l D b0 r M_2 139 (by decide) rfl (by decide) (by omega)) rfl rfl (Nat.le_of_ble_eq_true rfl) ⟨Nat.le_of_ble_eq_true rfl, Nat.le_of_ble_eq_true rfl⟩ ⟨Nat.zero_le _, Nat.zero_le _⟩ dX12_packed_19 (fun M_3 H locs eM_3 w => ?_)
  refine lv_aload_n C.1 C.2.1 dX12_packed_22 rfl (lv_at hl 0 rfl) ?_
  refine m_get C w (k := 117) (j := 24) (v := .ref (r (139))) flX12_147 (by decide) rfl rfl dX12_packed_23 ?_
  refine m_csv C w hl csX12_283 (As := [.ref (r (139))]) (rest := []) (c_X12_carried l D b0 r M_3 139 (by decide) rfl (by decide) (by omega)) rfl rfl (Nat.le_of_ble_eq_true rfl) ⟨Nat.le_of_ble_eq_true rfl, Nat.le_of_ble_eq_true rfl⟩ ⟨Nat.zero_le _, Nat.zero_le _⟩ dX12_packed_26 (fun M_4 H locs eM_4 w => ?_)
  refine lv_iconst (v := 0) C.1 C.2.1 dX12_packed_29 (by decide) ?_
  refine lv_istore_n (lv' := [(3, .int 0), (0, .ref (r (117))), (1, .ref (r (k1))), (2, .ref (r (k2)))]) C.1 C.2.1 dX12_packed_30 rfl hl (by decide) rfl (fun ls hl => ?_)
  have loop : ∀ (k t : Nat), t + k = 2 → ∀ (H : Heap) (locs : List Loc) (ls : Array Slot), mm_W D b0 r (f_X12_packed_L31 M_4 t) s H locs → lv_has ls 5 [(3, .int (nI (t))), (0, .ref (r (117))), (1, .ref (r (k1))), (2, .ref (r (k2)))] → W p l e (mm_rm 1 23) s m args below meth c H locs 0 0 (MQ below (va_Qv (fun M' => M' = f_X12_packed k1 k2 M) (mm_U D b0 r) (fun q => b0 ≤ q)) args s 0 0 (fun q => b0 ≤ q)) (F0 m 31 ls []) := by
    intro k
    induction k with
    | zero =>
      intro t ht H locs ls w hl
      obtain rfl : 2 = t := by omega
      obtain ⟨M_5, eM_5⟩ : ∃ zz, zz = f_X12_packed_L31 M_4 2 := ⟨_, rfl⟩
      rw [← eM_5] at w
      refine lv_iload_n C.1 C.2.1 dX12_packed_31 rfl (lv_at hl 0 rfl) ?_
      refine lv_iconst (v := 2) C.1 C.2.1 dX12_packed_32 (by decide) ?_
      refine m_icmp_ge (tgt := 206) (a := 2) (b := 2) C (by omega) (by omega) dX12_packed_33 (by decide) (fun _ => ?_) (fun h_6 => absurd h_6 (by omega))
      refine lv_iconst (v := 0) C.1 C.2.1 dX12_packed_206 (by decide) ?_
      refine lv_istore_n (lv' := [(3, .int 0), (0, .ref (r (117))), (1, .ref (r (k1))), (2, .ref (r (k2)))]) C.1 C.2.1 dX12_packed_207 rfl hl (by decide) rfl (fun ls hl => ?_)
      have loop : ∀ (k t : Nat), t + k = 16 → ∀ (H : Heap) (locs : List Loc) (ls : Array Slot), mm_W D b0 r (f_X12_packed_L208 k1 M_5 t) s H locs → lv_has ls 5 [(3, .int (nI (t))), (0, .ref (r (117))), (1, .ref (r (k1))), (2, .ref (r (k2)))] → W p l e (mm_rm 1 23) s m args below meth c H locs 0 0 (MQ below (va_Qv (fun M' => M' = f_X12_packed k1 k2 M) (mm_U D b0 r) (fun q => b0 ≤ q)) args s 0 0 (fun q => b0 ≤ q)) (F0 m 208 ls []) := by
        intro k
        induction k with
        | zero =>
          intro t ht H locs ls w hl
          obtain rfl : 16 = t := by omega
          obtain ⟨M_7, eM_7⟩ : ∃ zz, zz = f_X12_packed_L208 k1 M_5 16 := ⟨_, rfl⟩
          rw [← eM_7] at w
          refine lv_iload_n C.1 C.2.1 dX12_packed_208 rfl (lv_at hl 0 rfl) ?_
          refine lv_bipush (v := 16) C.1 C.2.1 dX12_packed_209 (by decide) ?_
          refine m_icmp_ge (tgt := 251) (a := 16) (b := 16) C (by omega) (by omega) dX12_packed_211 (by decide) (fun _ => ?_) (fun h_8 => absurd h_8 (by omega))
          exact m_vret C w (by subst eM_1 eM_2 eM_3 eM_4 eM_5 eM_7; exact Eq.symm (rfl)) dX12_packed_251
        | succ k ih =>
          intro t ht H locs ls w hl
          obtain ⟨M_9, eM_9⟩ : ∃ zz, zz = f_X12_packed_L208 k1 M_5 t := ⟨_, rfl⟩
          rw [← eM_9] at w
          refine lv_iload_n C.1 C.2.1 dX12_packed_208 rfl (lv_at hl 0 rfl) ?_
          refine lv_bipush (v := 16) C.1 C.2.1 dX12_packed_209 (by decide) ?_
          refine m_icmp_ge (tgt := 251) (a := t) (b := 16) C (by omega) (by omega) dX12_packed_211 (by decide) (fun h_10 => absurd h_10 (by omega)) (fun _ => ?_)
          refine lv_aload_n C.1 C.2.1 dX12_packed_214 rfl (lv_at hl 2 rfl) ?_
          refine lv_iconst (v := 2) C.1 C.2.1 dX12_packed_215 (by decide) ?_
          refine lv_iload_n C.1 C.2.1 dX12_packed_216 rfl (lv_at hl 0 rfl) ?_
          refine lv_imul C.1 C.2.1 dX12_packed_217 ?_
          refine m_i (y := nI (2 * t)) (pk_mul 2 t) ?_
          refine lv_aload_n C.1 C.2.1 dX12_packed_218 rfl (lv_at hl 1 rfl) ?_
          refine m_get C w (k := 117) (j := 24) (v := .ref (r (139))) flX12_147 (by decide) rfl rfl dX12_packed_219 ?_
          refine lv_iload_n C.1 C.2.1 dX12_packed_222 rfl (lv_at hl 0 rfl) ?_
          refine m_lald C w (k := 139) (i := t) (n := 16) (wr := true) (by decide) rfl (by omega) (by decide) dX12_packed_223 ?_
          refine lv_l2i (v := ((M_9.2 139 t) : Int64).toInt32) C.1 C.2.1 dX12_packed_224 rfl ?_
          refine lv_i2b (v := mm_b (((M_9.2 139 t) : Int64).toInt32)) C.1 C.2.1 dX12_packed_225 rfl ?_
          refine m_bast C w (k := k1) (i := 2 * t) (n := n1) (x := (mm_b (((M_9.2 139 t) : Int64).toInt32))) hk1 hs1 (by omega) hn1 (mm_bb _) dX12_packed_226 (fun H locs w => ?_)
          obtain ⟨M_11, eM_11⟩ : ∃ zz, zz = mm_w M_9 k1 (2 * t) (mm_b (((M_9.2 139 t) : Int64).toInt32)) := ⟨_, rfl⟩
          rw [← eM_11] at w
          refine lv_aload_n C.1 C.2.1 dX12_packed_227 rfl (lv_at hl 2 rfl) ?_
          refine lv_iconst (v := 2) C.1 C.2.1 dX12_packed_228 (by decide) ?_
          refine lv_iload_n C.1 C.2.1 dX12_packed_229 rfl (lv_at hl 0 rfl) ?_
          refine lv_imul C.1 C.2.1 dX12_packed_230 ?_
          refine m_i (y := nI (2 * t)) (pk_mul 2 t) ?_
          refine lv_iconst (v := 1) C.1 C.2.1 dX12_packed_231 (by decide) ?_
          refine lv_iadd C.1 C.2.1 dX12_packed_232 ?_
          refine m_i (y := nI (2 * t + 1)) (nI_add (2 * t) 1) ?_
          refine lv_aload_n C.1 C.2.1 dX12_packed_233 rfl (lv_at hl 1 rfl) ?_
          refine m_get C w (k := 117) (j := 24) (v := .ref (r (139))) flX12_147 (by decide) rfl rfl dX12_packed_234 ?_
          refine lv_iload_n C.1 C.2.1 dX12_packed_237 rfl (lv_at hl 0 rfl) ?_
          refine m_lald C w (k := 139) (i := t) (n := 16) (wr := true) (by decide) rfl (by omega) (by decide) dX12_packed_238 ?_
          refine lv_bipush (v := 8) C.1 C.2.1 dX12_packed_239 (by decide) ?_
          refine lv_lshr (v := (M_11.2 139 t) >>> (((8 : Int32)).toInt64 &&& 63)) C.1 C.2.1 dX12_packed_241 rfl ?_
          refine lv_l2i (v := (((M_11.2 139 t) >>> (((8 : Int32)).toInt64 &&& 63)) : Int64).toInt32) C.1 C.2.1 dX12_packed_242 rfl ?_
          refine lv_i2b (v := mm_b ((((M_11.2 139 t) >>> (((8 : Int32)).toInt64 &&& 63)) : Int64).toInt32)) C.1 C.2.1 dX12_packed_243 rfl ?_
          refine m_bast C w (k := k1) (i := 2 * t + 1) (n := n1) (x := (mm_b ((((M_11.2 139 t) >>> (((8 : Int32)).toInt64 &&& 63)) : Int64).toInt32))) hk1 hs1 (by omega) hn1 (mm_bb _) dX12_packed_244 (fun H locs w => ?_)
          obtain ⟨M_12, eM_12⟩ : ∃ zz, zz = mm_w M_11 k1 (2 * t + 1) (mm_b ((((M_11.2 139 t) >>> (((8 : Int32)).toInt64 &&& 63)) : Int64).toInt32)) := ⟨_, rfl⟩
          rw [← eM_12] at w
          refine lv_iinc (v := (nI (t + 1))) (lv' := [(3, .int (nI (t + 1))), (0, .ref (r (117))), (1, .ref (r (k1))), (2, .ref (r (k2)))]) C.1 C.2.1 dX12_packed_245 hl (k := 0) rfl (nI_add t 1) (by decide) rfl (fun ls hl => ?_)
          refine lv_goto (tgt := 208) C.1 C.2.1 dX12_packed_248 (by decide) ?_
          have h9 : lv_has ls 5 [(3, .int (nI (t + 1))), (0, .ref (r (117))), (1, .ref (r (k1))), (2, .ref (r (k2)))] := lv_sub hl [0, 1, 2, 3] rfl
          have hlZ : lv_has ls 5 [(3, .int (nI (t + 1))), (0, .ref (r (117))), (1, .ref (r (k1))), (2, .ref (r (k2)))] := h9
          have wZ := w
          subst eM_9 eM_11 eM_12
          refine ih (t + 1) (by omega) _ _ _ (wZ) ?_
          exact hlZ
      exact loop 16 0 (by omega) _ _ ls w hl
    | succ k ih =>
      intro t ht H locs ls w hl
      obtain ⟨M_13, eM_13⟩ : ∃ zz, zz = f_X12_packed_L31 M_4 t := ⟨_, rfl⟩
      rw [← eM_13] at w
      refine lv_iload_n C.1 C.2.1 dX12_packed_31 rfl (lv_at hl 0 rfl) ?_
      refine lv_iconst (v := 2) C.1 C.2.1 dX12_packed_32 (by decide) ?_
      refine m_icmp_ge (tgt := 206) (a := t) (b := 2) C (by omega) (by omega) dX12_packed_33 (by decide) (fun h_14 => absurd h_14 (by omega)) (fun _ => ?_)
      refine lv_aload_n C.1 C.2.1 dX12_packed_36 rfl (lv_at hl 1 rfl) ?_
      refine m_get C w (k := 117) (j := 26) (v := .ref (r (141))) flX12_153 (by decide) rfl rfl dX12_packed_37 ?_
      refine lv_iconst (v := 0) C.1 C.2.1 dX12_packed_40 (by decide) ?_
      refine lv_aload_n C.1 C.2.1 dX12_packed_41 rfl (lv_at hl 1 rfl) ?_
      refine m_get C w (k := 117) (j := 24) (v := .ref (r (139))) flX12_147 (by decide) rfl rfl dX12_packed_42 ?_
      refine lv_iconst (v := 0) C.1 C.2.1 dX12_packed_45 (by decide) ?_
      refine m_lald C w (k := 139) (i := 0) (n := 16) (wr := true) (by decide) rfl (by omega) (by decide) dX12_packed_46 ?_
      refine lv_ldc2 (v := (65517)) C.1 C.2.1 C.2.2.2.1 (C.2.2.2.2.1 _ klX12_295) dX12_packed_47 ?_
      refine lv_lsub C.1 C.2.1 dX12_packed_50 ?_
      refine m_last C w (k := 141) (i := 0) (n := 16) (x := ((M_13.2 139 0) - (65517))) (by decide) rfl (by omega) (by decide) dX12_packed_51 (fun H locs w => ?_)
      obtain ⟨M_15, eM_15⟩ : ∃ zz, zz = mm_wl M_13 141 0 ((M_13.2 139 0) - (65517)) := ⟨_, rfl⟩
      rw [← eM_15] at w
      refine lv_iconst (v := 1) C.1 C.2.1 dX12_packed_52 (by decide) ?_
      refine lv_istore (lv' := [(4, .int 1), (3, .int (nI (t))), (0, .ref (r (117))), (1, .ref (r (k1))), (2, .ref (r (k2)))]) C.1 C.2.1 dX12_packed_53 hl (by decide) rfl (fun ls hl => ?_)
      have loop1 : ∀ (k t1 : Nat), t1 + k = 14 → ∀ (H : Heap) (locs : List Loc) (ls : Array Slot), mm_W D b0 r (f_X12_packed_L55 M_15 t1) s H locs → lv_has ls 5 [(4, .int (nI (1 + t1))), (3, .int (nI (t))), (0, .ref (r (117))), (1, .ref (r (k1))), (2, .ref (r (k2)))] → W p l e (mm_rm 1 23) s m args below meth c H locs 0 0 (MQ below (va_Qv (fun M' => M' = f_X12_packed k1 k2 M) (mm_U D b0 r) (fun q => b0 ≤ q)) args s 0 0 (fun q => b0 ≤ q)) (F0 m 55 ls []) := by
        intro k
        induction k with
        | zero =>
          intro t1 ht1 H locs ls w hl
          obtain rfl : 14 = t1 := by omega
          obtain ⟨M_16, eM_16⟩ : ∃ zz, zz = f_X12_packed_L55 M_15 14 := ⟨_, rfl⟩
          rw [← eM_16] at w
          refine lv_iload C.1 C.2.1 dX12_packed_55 (lv_at hl 0 rfl) ?_
          refine lv_bipush (v := 15) C.1 C.2.1 dX12_packed_57 (by decide) ?_
          refine m_icmp_ge (tgt := 116) (a := 1 + 14) (b := 15) C (by omega) (by omega) dX12_packed_59 (by decide) (fun _ => ?_) (fun h_17 => absurd h_17 (by omega))
          refine lv_aload_n C.1 C.2.1 dX12_packed_116 rfl (lv_at hl 2 rfl) ?_
          refine m_get C w (k := 117) (j := 26) (v := .ref (r (141))) flX12_153 (by decide) rfl rfl dX12_packed_117 ?_
          refine lv_bipush (v := 15) C.1 C.2.1 dX12_packed_120 (by decide) ?_
          refine lv_aload_n C.1 C.2.1 dX12_packed_122 rfl (lv_at hl 2 rfl) ?_
          refine m_get C w (k := 117) (j := 24) (v := .ref (r (139))) flX12_147 (by decide) rfl rfl dX12_packed_123 ?_
          refine lv_bipush (v := 15) C.1 C.2.1 dX12_packed_126 (by decide) ?_
          refine m_lald C w (k := 139) (i := 15) (n := 16) (wr := true) (by decide) rfl (by omega) (by decide) dX12_packed_128 ?_
          refine lv_ldc2 (v := (32767)) C.1 C.2.1 C.2.2.2.1 (C.2.2.2.2.1 _ klX12_299) dX12_packed_129 ?_
          refine lv_lsub C.1 C.2.1 dX12_packed_132 ?_
          refine lv_aload_n C.1 C.2.1 dX12_packed_133 rfl (lv_at hl 2 rfl) ?_
          refine m_get C w (k := 117) (j := 26) (v := .ref (r (141))) flX12_153 (by decide) rfl rfl dX12_packed_134 ?_
          refine lv_bipush (v := 14) C.1 C.2.1 dX12_packed_137 (by decide) ?_
          refine m_lald C w (k := 141) (i := 14) (n := 16) (wr := true) (by decide) rfl (by omega) (by decide) dX12_packed_139 ?_
          refine lv_bipush (v := 16) C.1 C.2.1 dX12_packed_140 (by decide) ?_
          refine lv_lshr (v := (M_16.2 141 14) >>> (((16 : Int32)).toInt64 &&& 63)) C.1 C.2.1 dX12_packed_142 rfl ?_
          refine lv_lconst (v := 1) C.1 C.2.1 dX12_packed_143 (by decide) ?_
          refine lv_land C.1 C.2.1 dX12_packed_144 ?_
          refine lv_lsub C.1 C.2.1 dX12_packed_145 ?_
          refine m_last C w (k := 141) (i := 15) (n := 16) (x := (((M_16.2 139 15) - (32767)) - (((M_16.2 141 14) >>> (((16 : Int32)).toInt64 &&& 63)) &&& (1)))) (by decide) rfl (by omega) (by decide) dX12_packed_146 (fun H locs w => ?_)
          obtain ⟨M_18, eM_18⟩ : ∃ zz, zz = mm_wl M_16 141 15 (((M_16.2 139 15) - (32767)) - (((M_16.2 141 14) >>> (((16 : Int32)).toInt64 &&& 63)) &&& (1))) := ⟨_, rfl⟩
          rw [← eM_18] at w
          refine lv_aload_n C.1 C.2.1 dX12_packed_147 rfl (lv_at hl 2 rfl) ?_
          refine m_get C w (k := 117) (j := 26) (v := .ref (r (141))) flX12_153 (by decide) rfl rfl dX12_packed_148 ?_
          refine lv_bipush (v := 15) C.1 C.2.1 dX12_packed_151 (by decide) ?_
          refine m_lald C w (k := 141) (i := 15) (n := 16) (wr := true) (by decide) rfl (by omega) (by decide) dX12_packed_153 ?_
          refine lv_bipush (v := 16) C.1 C.2.1 dX12_packed_154 (by decide) ?_
          refine lv_lshr (v := (M_18.2 141 15) >>> (((16 : Int32)).toInt64 &&& 63)) C.1 C.2.1 dX12_packed_156 rfl ?_
          refine lv_lconst (v := 1) C.1 C.2.1 dX12_packed_157 (by decide) ?_
          refine lv_land C.1 C.2.1 dX12_packed_158 ?_
          refine lv_lconst (v := 1) C.1 C.2.1 dX12_packed_159 (by decide) ?_
          refine W.lcmp C.1 C.2.1 dX12_packed_160 ?_
          refine lv_if_ne (tgt := 168) C.1 C.2.1 dX12_packed_161 (by decide) (fun h_19 => ?_) (fun h_19 => ?_)
          · refine lv_iconst (v := 0) C.1 C.2.1 dX12_packed_168 (by decide) ?_
            refine lv_istore (lv' := [(4, .int 0), (3, .int (nI (t))), (0, .ref (r (117))), (1, .ref (r (k1))), (2, .ref (r (k2)))]) C.1 C.2.1 dX12_packed_169 hl (by decide) rfl (fun ls hl => ?_)
            refine lv_aload_n C.1 C.2.1 dX12_packed_171 rfl (lv_at hl 2 rfl) ?_
            refine m_get C w (k := 117) (j := 26) (v := .ref (r (141))) flX12_153 (by decide) rfl rfl dX12_packed_172 ?_
            refine lv_bipush (v := 14) C.1 C.2.1 dX12_packed_175 (by decide) ?_
            refine lv_dup2_11 C.1 C.2.1 dX12_packed_177 rfl rfl ?_
            refine m_lald C w (k := 141) (i := 14) (n := 16) (wr := true) (by decide) rfl (by omega) (by decide) dX12_packed_178 ?_
            refine lv_ldc2 (v := (65535)) C.1 C.2.1 C.2.2.2.1 (C.2.2.2.2.1 _ klX12_297) dX12_packed_179 ?_
            refine lv_land C.1 C.2.1 dX12_packed_182 ?_
            refine m_last C w (k := 141) (i := 14) (n := 16) (x := ((M_18.2 141 14) &&& (65535))) (by decide) rfl (by omega) (by decide) dX12_packed_183 (fun H locs w => ?_)
            obtain ⟨M_20, eM_20⟩ : ∃ zz, zz = mm_wl M_18 141 14 ((M_18.2 141 14) &&& (65535)) := ⟨_, rfl⟩
            rw [← eM_20] at w
            refine lv_iload C.1 C.2.1 dX12_packed_184 (lv_at hl 0 rfl) ?_
            refine m_if_ne (tgt := 200) (a := 0) C (by omega) dX12_packed_186 (by decide) (fun h_21 => absurd h_21 (by decide)) (fun _ => ?_)
            refine lv_aload_n C.1 C.2.1 dX12_packed_189 rfl (lv_at hl 2 rfl) ?_
            refine m_get C w (k := 117) (j := 24) (v := .ref (r (139))) flX12_147 (by decide) rfl rfl dX12_packed_190 ?_
            refine lv_aload_n C.1 C.2.1 dX12_packed_193 rfl (lv_at hl 2 rfl) ?_
            refine m_get C w (k := 117) (j := 26) (v := .ref (r (141))) flX12_153 (by decide) rfl rfl dX12_packed_194 ?_
            refine m_csv C w hl csX12_287 (As := [.ref (r (139)), .ref (r (141))]) (rest := []) (c_X12_same l D b0 r M_20 139 141 (by decide) rfl (by decide) (by omega) (by decide) rfl (by decide) (by omega)) rfl rfl (Nat.le_of_ble_eq_true rfl) ⟨Nat.le_of_ble_eq_true rfl, Nat.le_of_ble_eq_true rfl⟩ ⟨Nat.zero_le _, Nat.zero_le _⟩ dX12_packed_197 (fun M_22 H locs eM_22 w => ?_)
            refine lv_iinc (v := (nI (t + 1))) (lv' := [(3, .int (nI (t + 1))), (4, .int 0), (0, .ref (r (117))), (1, .ref (r (k1))), (2, .ref (r (k2)))]) C.1 C.2.1 dX12_packed_200 hl (k := 1) rfl (nI_add t 1) (by decide) rfl (fun ls hl => ?_)
            refine lv_goto (tgt := 31) C.1 C.2.1 dX12_packed_203 (by decide) ?_
            have h9 : lv_has ls 5 [(3, .int (nI (t + 1))), (0, .ref (r (117))), (1, .ref (r (k1))), (2, .ref (r (k2)))] := lv_sub hl [0, 2, 3, 4] rfl
            have hlZ : lv_has ls 5 [(3, .int (nI (t + 1))), (0, .ref (r (117))), (1, .ref (r (k1))), (2, .ref (r (k2)))] := h9
            have wZ := w
            subst eM_13 eM_15 eM_16 eM_18 eM_20 eM_22
            refine ih (t + 1) (by omega) _ _ _ (m_w (Eq.symm (congrArg (fun z => z) (show f_X12_packed_L31 M_4 (t + 1) = _ from ((if_pos h_19).trans rfl)))) wZ) ?_
            exact hlZ
          · refine lv_iconst (v := 1) C.1 C.2.1 dX12_packed_164 (by decide) ?_
            refine lv_goto (tgt := 169) C.1 C.2.1 dX12_packed_165 (by decide) ?_
            refine lv_istore (lv' := [(4, .int 1), (3, .int (nI (t))), (0, .ref (r (117))), (1, .ref (r (k1))), (2, .ref (r (k2)))]) C.1 C.2.1 dX12_packed_169 hl (by decide) rfl (fun ls hl => ?_)
            refine lv_aload_n C.1 C.2.1 dX12_packed_171 rfl (lv_at hl 2 rfl) ?_
            refine m_get C w (k := 117) (j := 26) (v := .ref (r (141))) flX12_153 (by decide) rfl rfl dX12_packed_172 ?_
            refine lv_bipush (v := 14) C.1 C.2.1 dX12_packed_175 (by decide) ?_
            refine lv_dup2_11 C.1 C.2.1 dX12_packed_177 rfl rfl ?_
            refine m_lald C w (k := 141) (i := 14) (n := 16) (wr := true) (by decide) rfl (by omega) (by decide) dX12_packed_178 ?_
            refine lv_ldc2 (v := (65535)) C.1 C.2.1 C.2.2.2.1 (C.2.2.2.2.1 _ klX12_297) dX12_packed_179 ?_
            refine lv_land C.1 C.2.1 dX12_packed_182 ?_
            refine m_last C w (k := 141) (i := 14) (n := 16) (x := ((M_18.2 141 14) &&& (65535))) (by decide) rfl (by omega) (by decide) dX12_packed_183 (fun H locs w => ?_)
            obtain ⟨M_23, eM_23⟩ : ∃ zz, zz = mm_wl M_18 141 14 ((M_18.2 141 14) &&& (65535)) := ⟨_, rfl⟩
            rw [← eM_23] at w
            refine lv_iload C.1 C.2.1 dX12_packed_184 (lv_at hl 0 rfl) ?_
            refine m_if_ne (tgt := 200) (a := 1) C (by omega) dX12_packed_186 (by decide) (fun _ => ?_) (fun h_24 => absurd h_24 (by decide))
            refine lv_iinc (v := (nI (t + 1))) (lv' := [(3, .int (nI (t + 1))), (4, .int 1), (0, .ref (r (117))), (1, .ref (r (k1))), (2, .ref (r (k2)))]) C.1 C.2.1 dX12_packed_200 hl (k := 1) rfl (nI_add t 1) (by decide) rfl (fun ls hl => ?_)
            refine lv_goto (tgt := 31) C.1 C.2.1 dX12_packed_203 (by decide) ?_
            have h9 : lv_has ls 5 [(3, .int (nI (t + 1))), (0, .ref (r (117))), (1, .ref (r (k1))), (2, .ref (r (k2)))] := lv_sub hl [0, 2, 3, 4] rfl
            have hlZ : lv_has ls 5 [(3, .int (nI (t + 1))), (0, .ref (r (117))), (1, .ref (r (k1))), (2, .ref (r (k2)))] := h9
            have wZ := w
            subst eM_13 eM_15 eM_16 eM_18 eM_23
            refine ih (t + 1) (by omega) _ _ _ (m_w (Eq.symm (congrArg (fun z => z) (show f_X12_packed_L31 M_4 (t + 1) = _ from ((if_neg (fun q => q h_19)).trans rfl)))) wZ) ?_
            exact hlZ
        | succ k ih =>
          intro t1 ht1 H locs ls w hl
          obtain ⟨M_25, eM_25⟩ : ∃ zz, zz = f_X12_packed_L55 M_15 t1 := ⟨_, rfl⟩
          rw [← eM_25] at w
          refine lv_iload C.1 C.2.1 dX12_packed_55 (lv_at hl 0 rfl) ?_
          refine lv_bipush (v := 15) C.1 C.2.1 dX12_packed_57 (by decide) ?_
          refine m_icmp_ge (tgt := 116) (a := 1 + t1) (b := 15) C (by omega) (by omega) dX12_packed_59 (by decide) (fun h_26 => absurd h_26 (by omega)) (fun _ => ?_)
          refine lv_aload_n C.1 C.2.1 dX12_packed_62 rfl (lv_at hl 2 rfl) ?_
          refine m_get C w (k := 117) (j := 26) (v := .ref (r (141))) flX12_153 (by decide) rfl rfl dX12_packed_63 ?_
          refine lv_iload C.1 C.2.1 dX12_packed_66 (lv_at hl 0 rfl) ?_
          refine lv_aload_n C.1 C.2.1 dX12_packed_68 rfl (lv_at hl 2 rfl) ?_
          refine m_get C w (k := 117) (j := 24) (v := .ref (r (139))) flX12_147 (by decide) rfl rfl dX12_packed_69 ?_
          refine lv_iload C.1 C.2.1 dX12_packed_72 (lv_at hl 0 rfl) ?_
          refine m_lald C w (k := 139) (i := 1 + t1) (n := 16) (wr := true) (by decide) rfl (by omega) (by decide) dX12_packed_74 ?_
          refine lv_ldc2 (v := (65535)) C.1 C.2.1 C.2.2.2.1 (C.2.2.2.2.1 _ klX12_297) dX12_packed_75 ?_
          refine lv_lsub C.1 C.2.1 dX12_packed_78 ?_
          refine lv_aload_n C.1 C.2.1 dX12_packed_79 rfl (lv_at hl 2 rfl) ?_
          refine m_get C w (k := 117) (j := 26) (v := .ref (r (141))) flX12_153 (by decide) rfl rfl dX12_packed_80 ?_
          refine lv_iload C.1 C.2.1 dX12_packed_83 (lv_at hl 0 rfl) ?_
          refine lv_iconst (v := 1) C.1 C.2.1 dX12_packed_85 (by decide) ?_
          refine lv_isub C.1 C.2.1 dX12_packed_86 ?_
          refine m_i (y := nI ((1 + t1) - 1)) (pk_sub (a := 1 + t1) (b := 1) (by omega)) ?_
          refine m_lald C w (k := 141) (i := (1 + t1) - 1) (n := 16) (wr := true) (by decide) rfl (by omega) (by decide) dX12_packed_87 ?_
          refine lv_bipush (v := 16) C.1 C.2.1 dX12_packed_88 (by decide) ?_
          refine lv_lshr (v := (M_25.2 141 ((1 + t1) - 1)) >>> (((16 : Int32)).toInt64 &&& 63)) C.1 C.2.1 dX12_packed_90 rfl ?_
          refine lv_lconst (v := 1) C.1 C.2.1 dX12_packed_91 (by decide) ?_
          refine lv_land C.1 C.2.1 dX12_packed_92 ?_
          refine lv_lsub C.1 C.2.1 dX12_packed_93 ?_
          refine m_last C w (k := 141) (i := 1 + t1) (n := 16) (x := (((M_25.2 139 (1 + t1)) - (65535)) - (((M_25.2 141 ((1 + t1) - 1)) >>> (((16 : Int32)).toInt64 &&& 63)) &&& (1)))) (by decide) rfl (by omega) (by decide) dX12_packed_94 (fun H locs w => ?_)
          obtain ⟨M_27, eM_27⟩ : ∃ zz, zz = mm_wl M_25 141 (1 + t1) (((M_25.2 139 (1 + t1)) - (65535)) - (((M_25.2 141 ((1 + t1) - 1)) >>> (((16 : Int32)).toInt64 &&& 63)) &&& (1))) := ⟨_, rfl⟩
          rw [← eM_27] at w
          refine lv_aload_n C.1 C.2.1 dX12_packed_95 rfl (lv_at hl 2 rfl) ?_
          refine m_get C w (k := 117) (j := 26) (v := .ref (r (141))) flX12_153 (by decide) rfl rfl dX12_packed_96 ?_
          refine lv_iload C.1 C.2.1 dX12_packed_99 (lv_at hl 0 rfl) ?_
          refine lv_iconst (v := 1) C.1 C.2.1 dX12_packed_101 (by decide) ?_
          refine lv_isub C.1 C.2.1 dX12_packed_102 ?_
          refine m_i (y := nI ((1 + t1) - 1)) (pk_sub (a := 1 + t1) (b := 1) (by omega)) ?_
          refine lv_dup2_11 C.1 C.2.1 dX12_packed_103 rfl rfl ?_
          refine m_lald C w (k := 141) (i := (1 + t1) - 1) (n := 16) (wr := true) (by decide) rfl (by omega) (by decide) dX12_packed_104 ?_
          refine lv_ldc2 (v := (65535)) C.1 C.2.1 C.2.2.2.1 (C.2.2.2.2.1 _ klX12_297) dX12_packed_105 ?_
          refine lv_land C.1 C.2.1 dX12_packed_108 ?_
          refine m_last C w (k := 141) (i := (1 + t1) - 1) (n := 16) (x := ((M_27.2 141 ((1 + t1) - 1)) &&& (65535))) (by decide) rfl (by omega) (by decide) dX12_packed_109 (fun H locs w => ?_)
          obtain ⟨M_28, eM_28⟩ : ∃ zz, zz = mm_wl M_27 141 ((1 + t1) - 1) ((M_27.2 141 ((1 + t1) - 1)) &&& (65535)) := ⟨_, rfl⟩
          rw [← eM_28] at w
          refine lv_iinc (v := (nI (1 + t1 + 1))) (lv' := [(4, .int (nI (1 + t1 + 1))), (3, .int (nI (t))), (0, .ref (r (117))), (1, .ref (r (k1))), (2, .ref (r (k2)))]) C.1 C.2.1 dX12_packed_110 hl (k := 0) rfl (nI_add (1 + t1) 1) (by decide) rfl (fun ls hl => ?_)
          refine lv_goto (tgt := 55) C.1 C.2.1 dX12_packed_113 (by decide) ?_
          have h9 : lv_has ls 5 [(4, .int (nI (1 + t1 + 1))), (3, .int (nI (t))), (0, .ref (r (117))), (1, .ref (r (k1))), (2, .ref (r (k2)))] := lv_sub hl [0, 1, 2, 3, 4] rfl
          rw [show ((nI (1 + t1 + 1)) : Int32) = (nI (1 + (t1 + 1))) from (by first | rfl | (congr 1; omega))] at h9
          have hlZ : lv_has ls 5 [(4, .int (nI (1 + (t1 + 1)))), (3, .int (nI (t))), (0, .ref (r (117))), (1, .ref (r (k1))), (2, .ref (r (k2)))] := h9
          have wZ := w
          subst eM_25 eM_27 eM_28
          refine ih (t1 + 1) (by omega) _ _ _ (wZ) ?_
          exact hlZ
      exact loop1 14 0 (by omega) _ _ ls w (by have h9 := hl; first | exact h9 | simpa using h9)
  exact loop 2 0 (by omega) _ _ ls w hl

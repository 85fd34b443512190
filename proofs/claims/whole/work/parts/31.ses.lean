def f_X7_hasBegun (x : Nat) (M : mm_M) : Int32 :=
  if (M.1 x 10) = (-1 : Int32) then ((0 : Int32)) else ((1 : Int32))
set_option maxHeartbeats 4000000 in
set_option maxRecDepth 100000 in
theorem c_X7_hasBegun (l : Launch) (D : va_G) (b0 : Nat) (r : Nat → Nat) (M : mm_M) (x : Nat) (hx : mm_ses x) : mm_Mi l yX7_hasBegun cX7_hasBegun 1 .boolean 0 0 D b0 r [.ref (r (x))] M (fun v M' => v = f_X7_hasBegun x M ∧ M' = M) := by
  refine mm_enter (cc := cX7_hasBegun) (nL := 1) (ret := (some .boolean)) (by decide) (Nat.le_of_ble_eq_true rfl) ?_
  intro p e s m args below meth c C w ls hl
  have hl : lv_has ls 1 [(0, .ref (r (x)))] := hl
  refine lv_aload_n C.1 C.2.1 dX7_hasBegun_0 rfl (lv_at hl 0 rfl) ?_
  refine m_get C w (k := x) (j := 10) (v := .int (M.1 x 10)) flX7_28 (by have := hx.1; omega) hx.2.2.1 (mm_v0 hx.2.2.2.2.2.2.2.2.2.2.2.2.2.2.2.2.2.1) dX7_hasBegun_1 ?_
  refine lv_iconst (v := (-1)) C.1 C.2.1 dX7_hasBegun_4 (by decide) ?_
  refine lv_icmp_eq (tgt := 12) C.1 C.2.1 dX7_hasBegun_5 (by decide) (fun h_1 => ?_) (fun h_1 => ?_)
  · refine lv_iconst (v := 0) C.1 C.2.1 dX7_hasBegun_12 (by decide) ?_
    exact m_zret C w (by decide) ⟨by exact Eq.symm (((if_pos h_1).trans rfl)), rfl⟩ dX7_hasBegun_13
  · refine lv_iconst (v := 1) C.1 C.2.1 dX7_hasBegun_8 (by decide) ?_
    refine lv_goto (tgt := 13) C.1 C.2.1 dX7_hasBegun_9 (by decide) ?_
    exact m_zret C w (by decide) ⟨by exact Eq.symm (((if_neg h_1).trans rfl)), rfl⟩ dX7_hasBegun_13

def f_X7_isOver (x : Nat) (M : mm_M) : Int32 :=
  if ¬ (M.1 x 10) = (3 : Int32) then ((0 : Int32)) else ((1 : Int32))
set_option maxHeartbeats 4000000 in
set_option maxRecDepth 100000 in
theorem c_X7_isOver (l : Launch) (D : va_G) (b0 : Nat) (r : Nat → Nat) (M : mm_M) (x : Nat) (hx : mm_ses x) : mm_Mi l yX7_isOver cX7_isOver 1 .boolean 0 0 D b0 r [.ref (r (x))] M (fun v M' => v = f_X7_isOver x M ∧ M' = M) := by
  refine mm_enter (cc := cX7_isOver) (nL := 1) (ret := (some .boolean)) (by decide) (Nat.le_of_ble_eq_true rfl) ?_
  intro p e s m args below meth c C w ls hl
  have hl : lv_has ls 1 [(0, .ref (r (x)))] := hl
  refine lv_aload_n C.1 C.2.1 dX7_isOver_0 rfl (lv_at hl 0 rfl) ?_
  refine m_get C w (k := x) (j := 10) (v := .int (M.1 x 10)) flX7_28 (by have := hx.1; omega) hx.2.2.1 (mm_v0 hx.2.2.2.2.2.2.2.2.2.2.2.2.2.2.2.2.2.1) dX7_isOver_1 ?_
  refine lv_iconst (v := 3) C.1 C.2.1 dX7_isOver_4 (by decide) ?_
  refine lv_icmp_ne (tgt := 12) C.1 C.2.1 dX7_isOver_5 (by decide) (fun h_1 => ?_) (fun h_1 => ?_)
  · refine lv_iconst (v := 0) C.1 C.2.1 dX7_isOver_12 (by decide) ?_
    exact m_zret C w (by decide) ⟨by exact Eq.symm (((if_pos h_1).trans rfl)), rfl⟩ dX7_isOver_13
  · refine lv_iconst (v := 1) C.1 C.2.1 dX7_isOver_8 (by decide) ?_
    refine lv_goto (tgt := 13) C.1 C.2.1 dX7_isOver_9 (by decide) ?_
    exact m_zret C w (by decide) ⟨by exact Eq.symm (((if_neg (fun q => q h_1)).trans rfl)), rfl⟩ dX7_isOver_13

def f_X7_writesNext (x : Nat) (M : mm_M) : Int32 :=
  if (3 : Int32) ≤ (M.1 x 10) then ((0 : Int32)) else (if (M.1 x 10) = (1 : Int32) then (if ¬ (M.1 x 9) = (0 : Int32) then ((0 : Int32)) else ((1 : Int32))) else (if ¬ (M.1 x 9) = (1 : Int32) then ((0 : Int32)) else ((1 : Int32))))
set_option maxHeartbeats 4000000 in
set_option maxRecDepth 100000 in
theorem c_X7_writesNext (l : Launch) (D : va_G) (b0 : Nat) (r : Nat → Nat) (M : mm_M) (x : Nat) (hx : mm_ses x) : mm_Mi l yX7_writesNext cX7_writesNext 1 .boolean 0 0 D b0 r [.ref (r (x))] M (fun v M' => v = f_X7_writesNext x M ∧ M' = M) := by
  refine mm_enter (cc := cX7_writesNext) (nL := 1) (ret := (some .boolean)) (by decide) (Nat.le_of_ble_eq_true rfl) ?_
  intro p e s m args below meth c C w ls hl
  have hl : lv_has ls 1 [(0, .ref (r (x)))] := hl
  refine lv_aload_n C.1 C.2.1 dX7_writesNext_0 rfl (lv_at hl 0 rfl) ?_
  refine m_get C w (k := x) (j := 10) (v := .int (M.1 x 10)) flX7_28 (by have := hx.1; omega) hx.2.2.1 (mm_v0 hx.2.2.2.2.2.2.2.2.2.2.2.2.2.2.2.2.2.1) dX7_writesNext_1 ?_
  refine lv_iconst (v := 3) C.1 C.2.1 dX7_writesNext_4 (by decide) ?_
  refine lv_icmp_ge (tgt := 32) C.1 C.2.1 dX7_writesNext_5 (by decide) (fun h_1 => ?_) (fun h_1 => ?_)
  · refine lv_iconst (v := 0) C.1 C.2.1 dX7_writesNext_32 (by decide) ?_
    exact m_zret C w (by decide) ⟨by exact Eq.symm (((if_pos h_1).trans rfl)), rfl⟩ dX7_writesNext_33
  · refine lv_aload_n C.1 C.2.1 dX7_writesNext_8 rfl (lv_at hl 0 rfl) ?_
    refine m_get C w (k := x) (j := 9) (v := .int (M.1 x 9)) flX7_24 (by have := hx.1; omega) hx.2.2.1 (mm_v0 hx.2.2.2.2.2.2.2.2.2.2.2.2.2.2.2.2.1) dX7_writesNext_9 ?_
    refine lv_aload_n C.1 C.2.1 dX7_writesNext_12 rfl (lv_at hl 0 rfl) ?_
    refine m_get C w (k := x) (j := 10) (v := .int (M.1 x 10)) flX7_28 (by have := hx.1; omega) hx.2.2.1 (mm_v0 hx.2.2.2.2.2.2.2.2.2.2.2.2.2.2.2.2.2.1) dX7_writesNext_13 ?_
    refine lv_iconst (v := 1) C.1 C.2.1 dX7_writesNext_16 (by decide) ?_
    refine lv_icmp_eq (tgt := 24) C.1 C.2.1 dX7_writesNext_17 (by decide) (fun h_2 => ?_) (fun h_2 => ?_)
    · refine lv_iconst (v := 0) C.1 C.2.1 dX7_writesNext_24 (by decide) ?_
      refine lv_icmp_ne (tgt := 32) C.1 C.2.1 dX7_writesNext_25 (by decide) (fun h_3 => ?_) (fun h_3 => ?_)
      · refine lv_iconst (v := 0) C.1 C.2.1 dX7_writesNext_32 (by decide) ?_
        exact m_zret C w (by decide) ⟨by exact Eq.symm (((if_neg h_1).trans ((if_pos h_2).trans ((if_pos h_3).trans rfl)))), rfl⟩ dX7_writesNext_33
      · refine lv_iconst (v := 1) C.1 C.2.1 dX7_writesNext_28 (by decide) ?_
        refine lv_goto (tgt := 33) C.1 C.2.1 dX7_writesNext_29 (by decide) ?_
        exact m_zret C w (by decide) ⟨by exact Eq.symm (((if_neg h_1).trans ((if_pos h_2).trans ((if_neg (fun q => q h_3)).trans rfl)))), rfl⟩ dX7_writesNext_33
    · refine lv_iconst (v := 1) C.1 C.2.1 dX7_writesNext_20 (by decide) ?_
      refine lv_goto (tgt := 25) C.1 C.2.1 dX7_writesNext_21 (by decide) ?_
      refine lv_icmp_ne (tgt := 32) C.1 C.2.1 dX7_writesNext_25 (by decide) (fun h_4 => ?_) (fun h_4 => ?_)
      · refine lv_iconst (v := 0) C.1 C.2.1 dX7_writesNext_32 (by decide) ?_
        exact m_zret C w (by decide) ⟨by exact Eq.symm (((if_neg h_1).trans ((if_neg h_2).trans ((if_pos h_4).trans rfl)))), rfl⟩ dX7_writesNext_33
      · refine lv_iconst (v := 1) C.1 C.2.1 dX7_writesNext_28 (by decide) ?_
        refine lv_goto (tgt := 33) C.1 C.2.1 dX7_writesNext_29 (by decide) ?_
        exact m_zret C w (by decide) ⟨by exact Eq.symm (((if_neg h_1).trans ((if_neg h_2).trans ((if_neg (fun q => q h_4)).trans rfl)))), rfl⟩ dX7_writesNext_33

def f_X7_readsNext (x : Nat) (M : mm_M) : Int32 :=
  if (3 : Int32) ≤ (M.1 x 10) then ((0 : Int32)) else (if ¬ (M.1 x 10) = (1 : Int32) then (if ¬ (M.1 x 9) = (0 : Int32) then ((0 : Int32)) else ((1 : Int32))) else (if ¬ (M.1 x 9) = (1 : Int32) then ((0 : Int32)) else ((1 : Int32))))
set_option maxHeartbeats 4000000 in
set_option maxRecDepth 100000 in
theorem c_X7_readsNext (l : Launch) (D : va_G) (b0 : Nat) (r : Nat → Nat) (M : mm_M) (x : Nat) (hx : mm_ses x) : mm_Mi l yX7_readsNext cX7_readsNext 1 .boolean 0 0 D b0 r [.ref (r (x))] M (fun v M' => v = f_X7_readsNext x M ∧ M' = M) := by
  refine mm_enter (cc := cX7_readsNext) (nL := 1) (ret := (some .boolean)) (by decide) (Nat.le_of_ble_eq_true rfl) ?_
  intro p e s m args below meth c C w ls hl
  have hl : lv_has ls 1 [(0, .ref (r (x)))] := hl
  refine lv_aload_n C.1 C.2.1 dX7_readsNext_0 rfl (lv_at hl 0 rfl) ?_
  refine m_get C w (k := x) (j := 10) (v := .int (M.1 x 10)) flX7_28 (by have := hx.1; omega) hx.2.2.1 (mm_v0 hx.2.2.2.2.2.2.2.2.2.2.2.2.2.2.2.2.2.1) dX7_readsNext_1 ?_
  refine lv_iconst (v := 3) C.1 C.2.1 dX7_readsNext_4 (by decide) ?_
  refine lv_icmp_ge (tgt := 32) C.1 C.2.1 dX7_readsNext_5 (by decide) (fun h_1 => ?_) (fun h_1 => ?_)
  · refine lv_iconst (v := 0) C.1 C.2.1 dX7_readsNext_32 (by decide) ?_
    exact m_zret C w (by decide) ⟨by exact Eq.symm (((if_pos h_1).trans rfl)), rfl⟩ dX7_readsNext_33
  · refine lv_aload_n C.1 C.2.1 dX7_readsNext_8 rfl (lv_at hl 0 rfl) ?_
    refine m_get C w (k := x) (j := 9) (v := .int (M.1 x 9)) flX7_24 (by have := hx.1; omega) hx.2.2.1 (mm_v0 hx.2.2.2.2.2.2.2.2.2.2.2.2.2.2.2.2.1) dX7_readsNext_9 ?_
    refine lv_aload_n C.1 C.2.1 dX7_readsNext_12 rfl (lv_at hl 0 rfl) ?_
    refine m_get C w (k := x) (j := 10) (v := .int (M.1 x 10)) flX7_28 (by have := hx.1; omega) hx.2.2.1 (mm_v0 hx.2.2.2.2.2.2.2.2.2.2.2.2.2.2.2.2.2.1) dX7_readsNext_13 ?_
    refine lv_iconst (v := 1) C.1 C.2.1 dX7_readsNext_16 (by decide) ?_
    refine lv_icmp_ne (tgt := 24) C.1 C.2.1 dX7_readsNext_17 (by decide) (fun h_2 => ?_) (fun h_2 => ?_)
    · refine lv_iconst (v := 0) C.1 C.2.1 dX7_readsNext_24 (by decide) ?_
      refine lv_icmp_ne (tgt := 32) C.1 C.2.1 dX7_readsNext_25 (by decide) (fun h_3 => ?_) (fun h_3 => ?_)
      · refine lv_iconst (v := 0) C.1 C.2.1 dX7_readsNext_32 (by decide) ?_
        exact m_zret C w (by decide) ⟨by exact Eq.symm (((if_neg h_1).trans ((if_pos h_2).trans ((if_pos h_3).trans rfl)))), rfl⟩ dX7_readsNext_33
      · refine lv_iconst (v := 1) C.1 C.2.1 dX7_readsNext_28 (by decide) ?_
        refine lv_goto (tgt := 33) C.1 C.2.1 dX7_readsNext_29 (by decide) ?_
        exact m_zret C w (by decide) ⟨by exact Eq.symm (((if_neg h_1).trans ((if_pos h_2).trans ((if_neg (fun q => q h_3)).trans rfl)))), rfl⟩ dX7_readsNext_33
    · refine lv_iconst (v := 1) C.1 C.2.1 dX7_readsNext_20 (by decide) ?_
      refine lv_goto (tgt := 25) C.1 C.2.1 dX7_readsNext_21 (by decide) ?_
      refine lv_icmp_ne (tgt := 32) C.1 C.2.1 dX7_readsNext_25 (by decide) (fun h_4 => ?_) (fun h_4 => ?_)
      · refine lv_iconst (v := 0) C.1 C.2.1 dX7_readsNext_32 (by decide) ?_
        exact m_zret C w (by decide) ⟨by exact Eq.symm (((if_neg h_1).trans ((if_neg (fun q => q h_2)).trans ((if_pos h_4).trans rfl)))), rfl⟩ dX7_readsNext_33
      · refine lv_iconst (v := 1) C.1 C.2.1 dX7_readsNext_28 (by decide) ?_
        refine lv_goto (tgt := 33) C.1 C.2.1 dX7_readsNext_29 (by decide) ?_
        exact m_zret C w (by decide) ⟨by exact Eq.symm (((if_neg h_1).trans ((if_neg (fun q => q h_2)).trans ((if_neg (fun q => q h_4)).trans rfl)))), rfl⟩ dX7_readsNext_33

def f_X7_knowsStatic (x : Nat) (M : mm_M) : Int32 :=
  if (M.1 x 9) = (0 : Int32) then (if (M.1 x 10) < (3 : Int32) then ((0 : Int32)) else ((1 : Int32))) else (if (M.1 x 10) < (2 : Int32) then ((0 : Int32)) else ((1 : Int32)))
set_option maxHeartbeats 4000000 in
set_option maxRecDepth 100000 in
theorem c_X7_knowsStatic (l : Launch) (D : va_G) (b0 : Nat) (r : Nat → Nat) (M : mm_M) (x : Nat) (hx : mm_ses x) : mm_Mi l yX7_knowsStatic cX7_knowsStatic 1 .boolean 0 0 D b0 r [.ref (r (x))] M (fun v M' => v = f_X7_knowsStatic x M ∧ M' = M) := by
  refine mm_enter (cc := cX7_knowsStatic) (nL := 1) (ret := (some .boolean)) (by decide) (Nat.le_of_ble_eq_true rfl) ?_
  intro p e s m args below meth c C w ls hl
  have hl : lv_has ls 1 [(0, .ref (r (x)))] := hl
  refine lv_aload_n C.1 C.2.1 dX7_knowsStatic_0 rfl (lv_at hl 0 rfl) ?_
  refine m_get C w (k := x) (j := 10) (v := .int (M.1 x 10)) flX7_28 (by have := hx.1; omega) hx.2.2.1 (mm_v0 hx.2.2.2.2.2.2.2.2.2.2.2.2.2.2.2.2.2.1) dX7_knowsStatic_1 ?_
  refine lv_aload_n C.1 C.2.1 dX7_knowsStatic_4 rfl (lv_at hl 0 rfl) ?_
  refine m_get C w (k := x) (j := 9) (v := .int (M.1 x 9)) flX7_24 (by have := hx.1; omega) hx.2.2.1 (mm_v0 hx.2.2.2.2.2.2.2.2.2.2.2.2.2.2.2.2.1) dX7_knowsStatic_5 ?_
  refine lv_if_eq (tgt := 15) C.1 C.2.1 dX7_knowsStatic_8 (by decide) (fun h_1 => ?_) (fun h_1 => ?_)
  · refine lv_iconst (v := 3) C.1 C.2.1 dX7_knowsStatic_15 (by decide) ?_
    refine lv_icmp_lt (tgt := 23) C.1 C.2.1 dX7_knowsStatic_16 (by decide) (fun h_2 => ?_) (fun h_2 => ?_)
    · refine lv_iconst (v := 0) C.1 C.2.1 dX7_knowsStatic_23 (by decide) ?_
      exact m_zret C w (by decide) ⟨by exact Eq.symm (((if_pos h_1).trans ((if_pos h_2).trans rfl))), rfl⟩ dX7_knowsStatic_24
    · refine lv_iconst (v := 1) C.1 C.2.1 dX7_knowsStatic_19 (by decide) ?_
      refine lv_goto (tgt := 24) C.1 C.2.1 dX7_knowsStatic_20 (by decide) ?_
      exact m_zret C w (by decide) ⟨by exact Eq.symm (((if_pos h_1).trans ((if_neg h_2).trans rfl))), rfl⟩ dX7_knowsStatic_24
  · refine lv_iconst (v := 2) C.1 C.2.1 dX7_knowsStatic_11 (by decide) ?_
    refine lv_goto (tgt := 16) C.1 C.2.1 dX7_knowsStatic_12 (by decide) ?_
    refine lv_icmp_lt (tgt := 23) C.1 C.2.1 dX7_knowsStatic_16 (by decide) (fun h_3 => ?_) (fun h_3 => ?_)
    · refine lv_iconst (v := 0) C.1 C.2.1 dX7_knowsStatic_23 (by decide) ?_
      exact m_zret C w (by decide) ⟨by exact Eq.symm (((if_neg h_1).trans ((if_pos h_3).trans rfl))), rfl⟩ dX7_knowsStatic_24
    · refine lv_iconst (v := 1) C.1 C.2.1 dX7_knowsStatic_19 (by decide) ?_
      refine lv_goto (tgt := 24) C.1 C.2.1 dX7_knowsStatic_20 (by decide) ?_
      exact m_zret C w (by decide) ⟨by exact Eq.symm (((if_neg h_1).trans ((if_neg h_3).trans rfl))), rfl⟩ dX7_knowsStatic_24

def f_X7_knowsEphemeral (x : Nat) (M : mm_M) : Int32 :=
  if (M.1 x 9) = (0 : Int32) then (if (M.1 x 10) < (1 : Int32) then ((0 : Int32)) else ((1 : Int32))) else (if (M.1 x 10) < (2 : Int32) then ((0 : Int32)) else ((1 : Int32)))
set_option maxHeartbeats 4000000 in
set_option maxRecDepth 100000 in
theorem c_X7_knowsEphemeral (l : Launch) (D : va_G) (b0 : Nat) (r : Nat → Nat) (M : mm_M) (x : Nat) (hx : mm_ses x) : mm_Mi l yX7_knowsEphemeral cX7_knowsEphemeral 1 .boolean 0 0 D b0 r [.ref (r (x))] M (fun v M' => v = f_X7_knowsEphemeral x M ∧ M' = M) := by
  refine mm_enter (cc := cX7_knowsEphemeral) (nL := 1) (ret := (some .boolean)) (by decide) (Nat.le_of_ble_eq_true rfl) ?_
  intro p e s m args below meth c C w ls hl
  have hl : lv_has ls 1 [(0, .ref (r (x)))] := hl
  refine lv_aload_n C.1 C.2.1 dX7_knowsEphemeral_0 rfl (lv_at hl 0 rfl) ?_
  refine m_get C w (k := x) (j := 10) (v := .int (M.1 x 10)) flX7_28 (by have := hx.1; omega) hx.2.2.1 (mm_v0 hx.2.2.2.2.2.2.2.2.2.2.2.2.2.2.2.2.2.1) dX7_knowsEphemeral_1 ?_
  refine lv_aload_n C.1 C.2.1 dX7_knowsEphemeral_4 rfl (lv_at hl 0 rfl) ?_
  refine m_get C w (k := x) (j := 9) (v := .int (M.1 x 9)) flX7_24 (by have := hx.1; omega) hx.2.2.1 (mm_v0 hx.2.2.2.2.2.2.2.2.2.2.2.2.2.2.2.2.1) dX7_knowsEphemeral_5 ?_
  refine lv_if_eq (tgt := 15) C.1 C.2.1 dX7_knowsEphemeral_8 (by decide) (fun h_1 => ?_) (fun h_1 => ?_)
  · refine lv_iconst (v := 1) C.1 C.2.1 dX7_knowsEphemeral_15 (by decide) ?_
    refine lv_icmp_lt (tgt := 23) C.1 C.2.1 dX7_knowsEphemeral_16 (by decide) (fun h_2 => ?_) (fun h_2 => ?_)
    · refine lv_iconst (v := 0) C.1 C.2.1 dX7_knowsEphemeral_23 (by decide) ?_
      exact m_zret C w (by decide) ⟨by exact Eq.symm (((if_pos h_1).trans ((if_pos h_2).trans rfl))), rfl⟩ dX7_knowsEphemeral_24
    · refine lv_iconst (v := 1) C.1 C.2.1 dX7_knowsEphemeral_19 (by decide) ?_
      refine lv_goto (tgt := 24) C.1 C.2.1 dX7_knowsEphemeral_20 (by decide) ?_
      exact m_zret C w (by decide) ⟨by exact Eq.symm (((if_pos h_1).trans ((if_neg h_2).trans rfl))), rfl⟩ dX7_knowsEphemeral_24
  · refine lv_iconst (v := 2) C.1 C.2.1 dX7_knowsEphemeral_11 (by decide) ?_
    refine lv_goto (tgt := 16) C.1 C.2.1 dX7_knowsEphemeral_12 (by decide) ?_
    refine lv_icmp_lt (tgt := 23) C.1 C.2.1 dX7_knowsEphemeral_16 (by decide) (fun h_3 => ?_) (fun h_3 => ?_)
    · refine lv_iconst (v := 0) C.1 C.2.1 dX7_knowsEphemeral_23 (by decide) ?_
      exact m_zret C w (by decide) ⟨by exact Eq.symm (((if_neg h_1).trans ((if_pos h_3).trans rfl))), rfl⟩ dX7_knowsEphemeral_24
    · refine lv_iconst (v := 1) C.1 C.2.1 dX7_knowsEphemeral_19 (by decide) ?_
      refine lv_goto (tgt := 24) C.1 C.2.1 dX7_knowsEphemeral_20 (by decide) ?_
      exact m_zret C w (by decide) ⟨by exact Eq.symm (((if_neg h_1).trans ((if_neg h_3).trans rfl))), rfl⟩ dX7_knowsEphemeral_24

def f_X7_figure (x : Nat) (v1 : Int32) (M : mm_M) : Int32 :=
  if (v1) = (0 : Int32) then ((M.1 x 10)) else (if (v1) = (1 : Int32) then (if (M.1 x 9) = (0 : Int32) then ((0 : Int32)) else ((1 : Int32))) else (if (v1) = (2 : Int32) then (if (f_X7_knowsStatic x M) = (0 : Int32) then ((0 : Int32)) else ((1 : Int32))) else (if (v1) = (3 : Int32) then ((f_X3_nonce (x + 11) M)) else (if (v1) = (4 : Int32) then ((f_X3_nonce (x + 14) M)) else (if (v1) = (5 : Int32) then ((M.1 x 11)) else ((-1 : Int32)))))))
set_option maxHeartbeats 4000000 in
set_option maxRecDepth 100000 in
theorem c_X7_figure (l : Launch) (D : va_G) (b0 : Nat) (r : Nat → Nat) (M : mm_M) (x : Nat) (v1 : Int32) (hx : mm_ses x) : mm_Mi l yX7_figure cX7_figure 2 .int 1 20 D b0 r [.ref (r (x)), .int (v1)] M (fun v M' => v = f_X7_figure x v1 M ∧ M' = M) := by
  refine mm_enter (cc := cX7_figure) (nL := 2) (ret := (some .int)) (by decide) (Nat.le_of_ble_eq_true rfl) ?_
  intro p e s m args below meth c C w ls hl
  have hl : lv_has ls 2 [(0, .ref (r (x))), (1, .int (v1))] := hl
  refine lv_iload_n C.1 C.2.1 dX7_figure_0 rfl (lv_at hl 1 rfl) ?_
  by_cases h_1 : (v1) = 0
  · refine lv_tableIn (off := 39) (tgt := 40) C.1 C.2.1 dX7_figure_1 (by rw [h_1]; decide) (by rw [h_1]; decide) (by rw [h_1]; rfl) (by decide) ?_
    refine lv_aload_n C.1 C.2.1 dX7_figure_40 rfl (lv_at hl 0 rfl) ?_
    refine m_get C w (k := x) (j := 10) (v := .int (M.1 x 10)) flX7_28 (by have := hx.1; omega) hx.2.2.1 (mm_v0 hx.2.2.2.2.2.2.2.2.2.2.2.2.2.2.2.2.2.1) dX7_figure_41 ?_
    exact m_iret C w ⟨by exact Eq.symm (((if_pos h_1).trans rfl)), rfl⟩ dX7_figure_44
  · by_cases h_2 : (v1) = 1
    · refine lv_tableIn (off := 44) (tgt := 45) C.1 C.2.1 dX7_figure_1 (by rw [h_2]; decide) (by rw [h_2]; decide) (by rw [h_2]; rfl) (by decide) ?_
      refine lv_aload_n C.1 C.2.1 dX7_figure_45 rfl (lv_at hl 0 rfl) ?_
      refine m_get C w (k := x) (j := 9) (v := .int (M.1 x 9)) flX7_24 (by have := hx.1; omega) hx.2.2.1 (mm_v0 hx.2.2.2.2.2.2.2.2.2.2.2.2.2.2.2.2.1) dX7_figure_46 ?_
      refine lv_if_eq (tgt := 56) C.1 C.2.1 dX7_figure_49 (by decide) (fun h_3 => ?_) (fun h_3 => ?_)
      · refine lv_iconst (v := 0) C.1 C.2.1 dX7_figure_56 (by decide) ?_
        exact m_iret C w ⟨by exact Eq.symm (((if_neg h_1).trans ((if_pos h_2).trans ((if_pos h_3).trans rfl)))), rfl⟩ dX7_figure_57
      · refine lv_iconst (v := 1) C.1 C.2.1 dX7_figure_52 (by decide) ?_
        refine lv_goto (tgt := 57) C.1 C.2.1 dX7_figure_53 (by decide) ?_
        exact m_iret C w ⟨by exact Eq.symm (((if_neg h_1).trans ((if_pos h_2).trans ((if_neg h_3).trans rfl)))), rfl⟩ dX7_figure_57
    · by_cases h_4 : (v1) = 2
      · refine lv_tableIn (off := 57) (tgt := 58) C.1 C.2.1 dX7_figure_1 (by rw [h_4]; decide) (by rw [h_4]; decide) (by rw [h_4]; rfl) (by decide) ?_
        refine lv_aload_n C.1 C.2.1 dX7_figure_58 rfl (lv_at hl 0 rfl) ?_
        refine m_cvi C w hl cvX7_136 (k := x) (by have := hx.1; omega) hx.2.2.1 (q := (RX7, TX7, 12)) rfl rfl (As := []) (rest := []) (c_X7_knowsStatic l D b0 r M x hx) rfl rfl (Nat.le_of_ble_eq_true rfl) ⟨Nat.le_of_ble_eq_true rfl, Nat.le_of_ble_eq_true rfl⟩ ⟨Nat.zero_le _, Nat.zero_le _⟩ dX7_figure_59 (fun v_5 M9 H locs e9 w => ?_)
        obtain ⟨ev_5, e9⟩ := e9
        rw [e9] at w
        subst ev_5
        refine lv_if_eq (tgt := 69) C.1 C.2.1 dX7_figure_62 (by decide) (fun h_6 => ?_) (fun h_6 => ?_)
        · refine lv_iconst (v := 0) C.1 C.2.1 dX7_figure_69 (by decide) ?_
          exact m_iret C w ⟨by exact Eq.symm (((if_neg h_1).trans ((if_neg h_2).trans ((if_pos h_4).trans ((if_pos h_6).trans rfl))))), rfl⟩ dX7_figure_70
        · refine lv_iconst (v := 1) C.1 C.2.1 dX7_figure_65 (by decide) ?_
          refine lv_goto (tgt := 70) C.1 C.2.1 dX7_figure_66 (by decide) ?_
          exact m_iret C w ⟨by exact Eq.symm (((if_neg h_1).trans ((if_neg h_2).trans ((if_pos h_4).trans ((if_neg h_6).trans rfl))))), rfl⟩ dX7_figure_70
      · by_cases h_7 : (v1) = 3
        · refine lv_tableIn (off := 70) (tgt := 71) C.1 C.2.1 dX7_figure_1 (by rw [h_7]; decide) (by rw [h_7]; decide) (by rw [h_7]; rfl) (by decide) ?_
          refine lv_aload_n C.1 C.2.1 dX7_figure_71 rfl (lv_at hl 0 rfl) ?_
          refine m_get C w (k := x) (j := 3) (v := .ref (r (x + 11))) flX7_63 (by have := hx.1; omega) hx.2.2.1 (mm_v3 hx.2.2.2.2.2.2.2.2.2.2.1) dX7_figure_72 ?_
          refine m_cvi C w hl cvX7_140 (k := x + 11) (by have := hx.2.2.2.2.2.1.1; omega) hx.2.2.2.2.2.1.2.1 (q := (RX3, TX3, 5)) rfl rfl (As := []) (rest := []) (c_X3_nonce l D b0 r M (x + 11) hx.2.2.2.2.2.1) rfl rfl (Nat.le_of_ble_eq_true rfl) ⟨Nat.le_of_ble_eq_true rfl, Nat.le_of_ble_eq_true rfl⟩ ⟨Nat.zero_le _, Nat.zero_le _⟩ dX7_figure_75 (fun v_8 M9 H locs e9 w => ?_)
          obtain ⟨ev_8, e9⟩ := e9
          rw [e9] at w
          subst ev_8
          exact m_iret C w ⟨by exact Eq.symm (((if_neg h_1).trans ((if_neg h_2).trans ((if_neg h_4).trans ((if_pos h_7).trans rfl))))), rfl⟩ dX7_figure_78
        · by_cases h_9 : (v1) = 4
          · refine lv_tableIn (off := 78) (tgt := 79) C.1 C.2.1 dX7_figure_1 (by rw [h_9]; decide) (by rw [h_9]; decide) (by rw [h_9]; rfl) (by decide) ?_
            refine lv_aload_n C.1 C.2.1 dX7_figure_79 rfl (lv_at hl 0 rfl) ?_
            refine m_get C w (k := x) (j := 4) (v := .ref (r (x + 14))) flX7_67 (by have := hx.1; omega) hx.2.2.1 (mm_v3 hx.2.2.2.2.2.2.2.2.2.2.2.1) dX7_figure_80 ?_
            refine m_cvi C w hl cvX7_140 (k := x + 14) (by have := hx.2.2.2.2.2.2.1.1; omega) hx.2.2.2.2.2.2.1.2.1 (q := (RX3, TX3, 5)) rfl rfl (As := []) (rest := []) (c_X3_nonce l D b0 r M (x + 14) hx.2.2.2.2.2.2.1) rfl rfl (Nat.le_of_ble_eq_true rfl) ⟨Nat.le_of_ble_eq_true rfl, Nat.le_of_ble_eq_true rfl⟩ ⟨Nat.zero_le _, Nat.zero_le _⟩ dX7_figure_83 (fun v_10 M9 H locs e9 w => ?_)
            obtain ⟨ev_10, e9⟩ := e9
            rw [e9] at w
            subst ev_10
            exact m_iret C w ⟨by exact Eq.symm (((if_neg h_1).trans ((if_neg h_2).trans ((if_neg h_4).trans ((if_neg h_7).trans ((if_pos h_9).trans rfl)))))), rfl⟩ dX7_figure_86
          · by_cases h_11 : (v1) = 5
            · refine lv_tableIn (off := 86) (tgt := 87) C.1 C.2.1 dX7_figure_1 (by rw [h_11]; decide) (by rw [h_11]; decide) (by rw [h_11]; rfl) (by decide) ?_
              refine lv_aload_n C.1 C.2.1 dX7_figure_87 rfl (lv_at hl 0 rfl) ?_
              refine m_get C w (k := x) (j := 11) (v := .int (M.1 x 11)) flX7_32 (by have := hx.1; omega) hx.2.2.1 (mm_v0 hx.2.2.2.2.2.2.2.2.2.2.2.2.2.2.2.2.2.2) dX7_figure_88 ?_
              exact m_iret C w ⟨by exact Eq.symm (((if_neg h_1).trans ((if_neg h_2).trans ((if_neg h_4).trans ((if_neg h_7).trans ((if_neg h_9).trans ((if_pos h_11).trans rfl))))))), rfl⟩ dX7_figure_91
            · refine lv_tableOut (tgt := 92) C.1 C.2.1 dX7_figure_1 (by have n0 := lv_neT h_1 (a := 0) rfl; have n1 := lv_neT h_2 (a := 1) rfl; have n2 := lv_neT h_4 (a := 2) rfl; have n3 := lv_neT h_7 (a := 3) rfl; have n4 := lv_neT h_9 (a := 4) rfl; have n5 := lv_neT h_11 (a := 5) rfl; omega) (by decide) ?_
              refine lv_iconst (v := (-1)) C.1 C.2.1 dX7_figure_92 (by decide) ?_
              exact m_iret C w ⟨by exact Eq.symm (((if_neg h_1).trans ((if_neg h_2).trans ((if_neg h_4).trans ((if_neg h_7).trans ((if_neg h_9).trans ((if_neg h_11).trans rfl))))))), rfl⟩ dX7_figure_93

def f_X7_knownByte (x : Nat) (v1 : Int32) (p1 : Nat) (M : mm_M) : Int32 :=
  if ¬ (v1) = (0 : Int32) then (if ¬ (v1) = (1 : Int32) then (if ¬ (v1) = (2 : Int32) then ((-1 : Int32)) else (if (f_X7_knowsEphemeral x M) = (0 : Int32) then ((-1 : Int32)) else (((M.1 (x + 4) p1) &&& (255 : Int32))))) else (if (f_X7_knowsStatic x M) = (0 : Int32) then (if ¬ (v1) = (2 : Int32) then ((-1 : Int32)) else (if (f_X7_knowsEphemeral x M) = (0 : Int32) then ((-1 : Int32)) else (((M.1 (x + 4) p1) &&& (255 : Int32))))) else (((M.1 (x + 3) p1) &&& (255 : Int32))))) else (((M.1 (x + 6) p1) &&& (255 : Int32)))
set_option maxHeartbeats 4000000 in
set_option maxRecDepth 100000 in
theorem c_X7_knownByte (l : Launch) (D : va_G) (b0 : Nat) (r : Nat → Nat) (M : mm_M) (x : Nat) (v1 : Int32) (p1 : Nat) (hx : mm_ses x) (hp1 : p1 < 32) : mm_Mi l yX7_knownByte cX7_knownByte 3 .int 1 20 D b0 r [.ref (r (x)), .int (v1), .int (nI (p1))] M (fun v M' => v = f_X7_knownByte x v1 p1 M ∧ M' = M) := by
  refine mm_enter (cc := cX7_knownByte) (nL := 3) (ret := (some .int)) (by decide) (Nat.le_of_ble_eq_true rfl) ?_
  intro p e s m args below meth c C w ls hl
  have hl : lv_has ls 3 [(0, .ref (r (x))), (1, .int (v1)), (2, .int (nI (p1)))] := hl
  refine lv_iload_n C.1 C.2.1 dX7_knownByte_0 rfl (lv_at hl 1 rfl) ?_
  refine lv_if_ne (tgt := 18) C.1 C.2.1 dX7_knownByte_1 (by decide) (fun h_1 => ?_) (fun h_1 => ?_)
  · refine lv_iload_n C.1 C.2.1 dX7_knownByte_18 rfl (lv_at hl 1 rfl) ?_
    refine lv_iconst (v := 1) C.1 C.2.1 dX7_knownByte_19 (by decide) ?_
    refine lv_icmp_ne (tgt := 41) C.1 C.2.1 dX7_knownByte_20 (by decide) (fun h_2 => ?_) (fun h_2 => ?_)
    · refine lv_iload_n C.1 C.2.1 dX7_knownByte_41 rfl (lv_at hl 1 rfl) ?_
      refine lv_iconst (v := 2) C.1 C.2.1 dX7_knownByte_42 (by decide) ?_
      refine lv_icmp_ne (tgt := 64) C.1 C.2.1 dX7_knownByte_43 (by decide) (fun h_3 => ?_) (fun h_3 => ?_)
      · refine lv_iconst (v := (-1)) C.1 C.2.1 dX7_knownByte_64 (by decide) ?_
        exact m_iret C w ⟨by exact Eq.symm (((if_pos h_1).trans ((if_pos h_2).trans ((if_pos h_3).trans rfl)))), rfl⟩ dX7_knownByte_65
      · refine lv_aload_n C.1 C.2.1 dX7_knownByte_46 rfl (lv_at hl 0 rfl) ?_
        refine m_cvi C w hl cvX7_146 (k := x) (by have := hx.1; omega) hx.2.2.1 (q := (RX7, TX7, 12)) rfl rfl (As := []) (rest := []) (c_X7_knowsEphemeral l D b0 r M x hx) rfl rfl (Nat.le_of_ble_eq_true rfl) ⟨Nat.le_of_ble_eq_true rfl, Nat.le_of_ble_eq_true rfl⟩ ⟨Nat.zero_le _, Nat.zero_le _⟩ dX7_knownByte_47 (fun v_4 M9 H locs e9 w => ?_)
        obtain ⟨ev_4, e9⟩ := e9
        rw [e9] at w
        subst ev_4
        refine lv_if_eq (tgt := 64) C.1 C.2.1 dX7_knownByte_50 (by decide) (fun h_5 => ?_) (fun h_5 => ?_)
        · refine lv_iconst (v := (-1)) C.1 C.2.1 dX7_knownByte_64 (by decide) ?_
          exact m_iret C w ⟨by exact Eq.symm (((if_pos h_1).trans ((if_pos h_2).trans ((if_neg (fun q => q h_3)).trans ((if_pos h_5).trans rfl))))), rfl⟩ dX7_knownByte_65
        · refine lv_aload_n C.1 C.2.1 dX7_knownByte_53 rfl (lv_at hl 0 rfl) ?_
          refine m_get C w (k := x) (j := 8) (v := .ref (r (x + 4))) flX7_21 (by have := hx.1; omega) hx.2.2.1 (mm_v3 hx.2.2.2.2.2.2.2.2.2.2.2.2.2.2.2.1) dX7_knownByte_54 ?_
          refine lv_iload_n C.1 C.2.1 dX7_knownByte_57 rfl (lv_at hl 2 rfl) ?_
          refine m_bald C w (k := x + 4) (i := p1) (n := 32) (wr := true) (by have := hx.1; omega) (hx.2.2.2.1 3 (by decide)) (by omega) (by decide) dX7_knownByte_58 ?_
          refine lv_sipush (v := 255) C.1 C.2.1 dX7_knownByte_59 (by decide) ?_
          refine lv_iand C.1 C.2.1 dX7_knownByte_62 ?_
          exact m_iret C w ⟨by exact Eq.symm (((if_pos h_1).trans ((if_pos h_2).trans ((if_neg (fun q => q h_3)).trans ((if_neg h_5).trans rfl))))), rfl⟩ dX7_knownByte_63
    · refine lv_aload_n C.1 C.2.1 dX7_knownByte_23 rfl (lv_at hl 0 rfl) ?_
      refine m_cvi C w hl cvX7_136 (k := x) (by have := hx.1; omega) hx.2.2.1 (q := (RX7, TX7, 12)) rfl rfl (As := []) (rest := []) (c_X7_knowsStatic l D b0 r M x hx) rfl rfl (Nat.le_of_ble_eq_true rfl) ⟨Nat.le_of_ble_eq_true rfl, Nat.le_of_ble_eq_true rfl⟩ ⟨Nat.zero_le _, Nat.zero_le _⟩ dX7_knownByte_24 (fun v_6 M9 H locs e9 w => ?_)
      obtain ⟨ev_6, e9⟩ := e9
      rw [e9] at w
      subst ev_6
      refine lv_if_eq (tgt := 41) C.1 C.2.1 dX7_knownByte_27 (by decide) (fun h_7 => ?_) (fun h_7 => ?_)
      · refine lv_iload_n C.1 C.2.1 dX7_knownByte_41 rfl (lv_at hl 1 rfl) ?_
        refine lv_iconst (v := 2) C.1 C.2.1 dX7_knownByte_42 (by decide) ?_
        refine lv_icmp_ne (tgt := 64) C.1 C.2.1 dX7_knownByte_43 (by decide) (fun h_8 => ?_) (fun h_8 => ?_)
        · refine lv_iconst (v := (-1)) C.1 C.2.1 dX7_knownByte_64 (by decide) ?_
          exact m_iret C w ⟨by exact Eq.symm (((if_pos h_1).trans ((if_neg (fun q => q h_2)).trans ((if_pos h_7).trans ((if_pos h_8).trans rfl))))), rfl⟩ dX7_knownByte_65
        · refine lv_aload_n C.1 C.2.1 dX7_knownByte_46 rfl (lv_at hl 0 rfl) ?_
          refine m_cvi C w hl cvX7_146 (k := x) (by have := hx.1; omega) hx.2.2.1 (q := (RX7, TX7, 12)) rfl rfl (As := []) (rest := []) (c_X7_knowsEphemeral l D b0 r M x hx) rfl rfl (Nat.le_of_ble_eq_true rfl) ⟨Nat.le_of_ble_eq_true rfl, Nat.le_of_ble_eq_true rfl⟩ ⟨Nat.zero_le _, Nat.zero_le _⟩ dX7_knownByte_47 (fun v_9 M9 H locs e9 w => ?_)
          obtain ⟨ev_9, e9⟩ := e9
          rw [e9] at w
          subst ev_9
          refine lv_if_eq (tgt := 64) C.1 C.2.1 dX7_knownByte_50 (by decide) (fun h_10 => ?_) (fun h_10 => ?_)
          · refine lv_iconst (v := (-1)) C.1 C.2.1 dX7_knownByte_64 (by decide) ?_
            exact m_iret C w ⟨by exact Eq.symm (((if_pos h_1).trans ((if_neg (fun q => q h_2)).trans ((if_pos h_7).trans ((if_neg (fun q => q h_8)).trans ((if_pos h_10).trans rfl)))))), rfl⟩ dX7_knownByte_65
          · refine lv_aload_n C.1 C.2.1 dX7_knownByte_53 rfl (lv_at hl 0 rfl) ?_
            refine m_get C w (k := x) (j := 8) (v := .ref (r (x + 4))) flX7_21 (by have := hx.1; omega) hx.2.2.1 (mm_v3 hx.2.2.2.2.2.2.2.2.2.2.2.2.2.2.2.1) dX7_knownByte_54 ?_
            refine lv_iload_n C.1 C.2.1 dX7_knownByte_57 rfl (lv_at hl 2 rfl) ?_
            refine m_bald C w (k := x + 4) (i := p1) (n := 32) (wr := true) (by have := hx.1; omega) (hx.2.2.2.1 3 (by decide)) (by omega) (by decide) dX7_knownByte_58 ?_
            refine lv_sipush (v := 255) C.1 C.2.1 dX7_knownByte_59 (by decide) ?_
            refine lv_iand C.1 C.2.1 dX7_knownByte_62 ?_
            exact m_iret C w ⟨by exact Eq.symm (((if_pos h_1).trans ((if_neg (fun q => q h_2)).trans ((if_pos h_7).trans ((if_neg (fun q => q h_8)).trans ((if_neg h_10).trans rfl)))))), rfl⟩ dX7_knownByte_63
      · refine lv_aload_n C.1 C.2.1 dX7_knownByte_30 rfl (lv_at hl 0 rfl) ?_
        refine m_get C w (k := x) (j := 7) (v := .ref (r (x + 3))) flX7_18 (by have := hx.1; omega) hx.2.2.1 (mm_v3 hx.2.2.2.2.2.2.2.2.2.2.2.2.2.2.1) dX7_knownByte_31 ?_
        refine lv_iload_n C.1 C.2.1 dX7_knownByte_34 rfl (lv_at hl 2 rfl) ?_
        refine m_bald C w (k := x + 3) (i := p1) (n := 32) (wr := true) (by have := hx.1; omega) (hx.2.2.2.1 2 (by decide)) (by omega) (by decide) dX7_knownByte_35 ?_
        refine lv_sipush (v := 255) C.1 C.2.1 dX7_knownByte_36 (by decide) ?_
        refine lv_iand C.1 C.2.1 dX7_knownByte_39 ?_
        exact m_iret C w ⟨by exact Eq.symm (((if_pos h_1).trans ((if_neg (fun q => q h_2)).trans ((if_neg h_7).trans rfl)))), rfl⟩ dX7_knownByte_40
  · refine lv_aload_n C.1 C.2.1 dX7_knownByte_4 rfl (lv_at hl 0 rfl) ?_
    refine m_get C w (k := x) (j := 1) (v := .ref (r (x + 5))) flX7_47 (by have := hx.1; omega) hx.2.2.1 (mm_v3 hx.2.2.2.2.2.2.2.2.1) dX7_knownByte_5 ?_
    refine m_get C w (k := x + 5) (j := 0) (v := .ref (r (x + 6))) flX7_143 (by have := hx.2.2.2.2.1.1; omega) hx.2.2.2.2.1.2.1 (mm_v3 hx.2.2.2.2.1.2.2.2.2.2.1) dX7_knownByte_8 ?_
    refine lv_iload_n C.1 C.2.1 dX7_knownByte_11 rfl (lv_at hl 2 rfl) ?_
    refine m_bald C w (k := x + 6) (i := p1) (n := 32) (wr := true) (by have := hx.2.2.2.2.1.1; omega) hx.2.2.2.2.1.2.2.1 (by omega) (by decide) dX7_knownByte_12 ?_
    refine lv_sipush (v := 255) C.1 C.2.1 dX7_knownByte_13 (by decide) ?_
    refine lv_iand C.1 C.2.1 dX7_knownByte_16 ?_
    exact m_iret C w ⟨by exact Eq.symm (((if_neg (fun q => q h_1)).trans rfl)), rfl⟩ dX7_knownByte_17

def f_X7_renewKey (x : Nat) (v1 : Int32) (M : mm_M) : mm_M :=
  if (v1) = (0 : Int32) then (let M_2 := f_X3_renewKey (x + 14) M
  M_2) else (let M_3 := f_X3_renewKey (x + 11) M
  M_3)
theorem w_f_X7_renewKey (x : Nat) (v1 : Int32) (M : mm_M) : mm_fr [34, 35, 33, 37, 40, 38, 39, 31, ((x + 14) + 2), 41, x + 15, ((x + 11) + 2), x + 12] M (f_X7_renewKey x v1 M) := by
  unfold f_X7_renewKey
  exact (mm_fr_ite (fun _ => ((w_f_X3_renewKey _ _).on (by simp) (mm_fr_refl _ _))) (fun _ => ((w_f_X3_renewKey _ _).on (by simp) (mm_fr_refl _ _))))
set_option maxHeartbeats 4000000 in
set_option maxRecDepth 100000 in
theorem c_X7_renewKey (l : Launch) (D : va_G) (b0 : Nat) (r : Nat → Nat) (M : mm_M) (x : Nat) (v1 : Int32) (hx : mm_ses x) : mm_Mv l yX7_renewKey cX7_renewKey 2 5 143 D b0 r [.ref (r (x)), .int (v1)] M (fun M' => M' = f_X7_renewKey x v1 M) := by
  refine mm_enter (cc := cX7_renewKey) (nL := 2) (ret := none) (by decide) (Nat.le_of_ble_eq_true rfl) ?_
  intro p e s m args below meth c C w ls hl
  have hl : lv_has ls 2 [(0, .ref (r (x))), (1, .int (v1))] := hl
  refine lv_iload_n C.1 C.2.1 dX7_renewKey_0 rfl (lv_at hl 1 rfl) ?_
  refine lv_if_eq (tgt := 14) C.1 C.2.1 dX7_renewKey_1 (by decide) (fun h_1 => ?_) (fun h_1 => ?_)
  · refine lv_aload_n C.1 C.2.1 dX7_renewKey_14 rfl (lv_at hl 0 rfl) ?_
    refine m_get C w (k := x) (j := 4) (v := .ref (r (x + 14))) flX7_67 (by have := hx.1; omega) hx.2.2.1 (mm_v3 hx.2.2.2.2.2.2.2.2.2.2.2.1) dX7_renewKey_15 ?_
    refine m_cvv C w hl cvX7_133 (k := x + 14) (by have := hx.2.2.2.2.2.2.1.1; omega) hx.2.2.2.2.2.2.1.2.1 (q := (RX3, TX3, 5)) rfl rfl (As := []) (rest := []) (c_X3_renewKey l D b0 r M (x + 14) hx.2.2.2.2.2.2.1) rfl rfl (Nat.le_of_ble_eq_true rfl) ⟨Nat.le_of_ble_eq_true rfl, Nat.le_of_ble_eq_true rfl⟩ ⟨Nat.zero_le _, Nat.zero_le _⟩ dX7_renewKey_18 (fun M_2 H locs eM_2 w => ?_)
    exact m_vret C w (by subst eM_2; exact Eq.symm (((if_pos h_1).trans rfl))) dX7_renewKey_21
  · refine lv_aload_n C.1 C.2.1 dX7_renewKey_4 rfl (lv_at hl 0 rfl) ?_
    refine m_get C w (k := x) (j := 3) (v := .ref (r (x + 11))) flX7_63 (by have := hx.1; omega) hx.2.2.1 (mm_v3 hx.2.2.2.2.2.2.2.2.2.2.1) dX7_renewKey_5 ?_
    refine m_cvv C w hl cvX7_133 (k := x + 11) (by have := hx.2.2.2.2.2.1.1; omega) hx.2.2.2.2.2.1.2.1 (q := (RX3, TX3, 5)) rfl rfl (As := []) (rest := []) (c_X3_renewKey l D b0 r M (x + 11) hx.2.2.2.2.2.1) rfl rfl (Nat.le_of_ble_eq_true rfl) ⟨Nat.le_of_ble_eq_true rfl, Nat.le_of_ble_eq_true rfl⟩ ⟨Nat.zero_le _, Nat.zero_le _⟩ dX7_renewKey_8 (fun M_3 H locs eM_3 w => ?_)
    refine lv_goto (tgt := 21) C.1 C.2.1 dX7_renewKey_11 (by decide) ?_
    exact m_vret C w (by subst eM_3; exact Eq.symm (((if_neg h_1).trans rfl))) dX7_renewKey_21

def f_X7_sendMessage (x : Nat) (p1 : Nat) (M : mm_M) : Int32 × mm_M :=
  let v_2 := (f_X3_encryptWithAd (x + 11) 178 1 0 p1 2 0 0 M).1
  let M_1 := (f_X3_encryptWithAd (x + 11) 178 1 0 p1 2 0 0 M).2
  ((v_2), M_1)
theorem w_f_X7_sendMessage (x : Nat) (p1 : Nat) (M : mm_M) : mm_fr2 [34, 35, 33, 37, 40, 38, 39, 31, 2, 41, (x + 11)] M (f_X7_sendMessage x p1 M) := by
  unfold f_X7_sendMessage
  exact ((w_f_X3_encryptWithAd _ _ _ _ _ _ _ _ _).m.on (by simp) (mm_fr_refl _ _)).b
set_option maxHeartbeats 4000000 in
set_option maxRecDepth 100000 in
theorem c_X7_sendMessage (l : Launch) (D : va_G) (b0 : Nat) (r : Nat → Nat) (M : mm_M) (x : Nat) (p1 : Nat) (hx : mm_ses x) (hp1 : p1 ≤ 900) : mm_Mi l yX7_sendMessage cX7_sendMessage 4 .int 5 149 D b0 r [.ref (r (x)), .ref (r (1)), .int (nI (p1)), .ref (r (2))] M (fun v M' => (v, M') = f_X7_sendMessage x p1 M) := by
  refine mm_enter (cc := cX7_sendMessage) (nL := 4) (ret := (some .int)) (by decide) (Nat.le_of_ble_eq_true rfl) ?_
  intro p e s m args below meth c C w ls hl
  have hl : lv_has ls 4 [(0, .ref (r (x))), (1, .ref (r (1))), (2, .int (nI (p1))), (3, .ref (r (2)))] := hl
  refine lv_aload_n C.1 C.2.1 dX7_sendMessage_0 rfl (lv_at hl 0 rfl) ?_
  refine m_get C w (k := x) (j := 3) (v := .ref (r (x + 11))) flX7_63 (by have := hx.1; omega) hx.2.2.1 (mm_v3 hx.2.2.2.2.2.2.2.2.2.2.1) dX7_sendMessage_1 ?_
  refine m_getsN C w C.2.2.2.2.2.2.2.1.2.2.2.2.2.1 C.2.2.2.2.2.2.2.2.2.2.2.1 dX7_sendMessage_4 ?_
  refine lv_aload_n C.1 C.2.1 dX7_sendMessage_7 rfl (lv_at hl 1 rfl) ?_
  refine lv_iconst (v := 0) C.1 C.2.1 dX7_sendMessage_8 (by decide) ?_
  refine lv_iload_n C.1 C.2.1 dX7_sendMessage_9 rfl (lv_at hl 2 rfl) ?_
  refine lv_aload_n C.1 C.2.1 dX7_sendMessage_10 rfl (lv_at hl 3 rfl) ?_
  refine lv_iconst (v := 0) C.1 C.2.1 dX7_sendMessage_11 (by decide) ?_
  refine m_cvi C w hl cvX7_126 (k := x + 11) (by have := hx.2.2.2.2.2.1.1; omega) hx.2.2.2.2.2.1.2.1 (q := (RX3, TX3, 5)) rfl rfl (As := [.ref (r (178)), .ref (r (1)), .int 0, .int (nI (p1)), .ref (r (2)), .int 0]) (rest := []) (c_X3_encryptWithAd l D b0 r M (x + 11) 178 1 0 p1 2 0 0 hx.2.2.2.2.2.1 (by decide) rfl (by decide) (by omega) (by decide) rfl (by decide) (by omega) (by omega) (by decide) rfl (by decide) (by omega) (by omega)) rfl rfl (Nat.le_of_ble_eq_true rfl) ⟨Nat.le_of_ble_eq_true rfl, Nat.le_of_ble_eq_true rfl⟩ ⟨Nat.zero_le _, Nat.zero_le _⟩ dX7_sendMessage_12 (fun v_2 M_1 H locs e9 w => ?_)
  obtain ⟨ev_2, eM_1⟩ : v_2 = (f_X3_encryptWithAd (x + 11) 178 1 0 p1 2 0 0 M).1 ∧ M_1 = (f_X3_encryptWithAd (x + 11) 178 1 0 p1 2 0 0 M).2 := ⟨congrArg Prod.fst e9, congrArg Prod.snd e9⟩
  clear e9
  exact m_iret C w (by subst ev_2 eM_1; exact Eq.symm (rfl)) dX7_sendMessage_15

def f_X7_receiveMessage_B1 (x : Nat) (M_1 : mm_M) (v_2 : Int32) : Int32 × mm_M :=
  if ¬ (v_2) = (-1 : Int32) then (((v_2), M_1)) else (let M_4 := mm_w M_1 x 11 ((M_1.1 x 11) + (1 : Int32))
  ((v_2), M_4))
theorem w_f_X7_receiveMessage_B1 (x : Nat) (M_1 : mm_M) (v_2 : Int32) : mm_fr2 [x] M_1 (f_X7_receiveMessage_B1 x M_1 v_2) := by
  unfold f_X7_receiveMessage_B1
  exact (mm_fr_ite2 (fun _ => (mm_fr_refl _ _).b) (fun _ => (mm_fr_w (by simp) (mm_fr_refl _ _)).b))
def f_X7_receiveMessage (x : Nat) (p1 : Nat) (M : mm_M) : Int32 × mm_M :=
  let v_2 := (f_X3_decryptWithAd (x + 14) 178 1 0 p1 2 0 0 M).1
  let M_1 := (f_X3_decryptWithAd (x + 14) 178 1 0 p1 2 0 0 M).2
  f_X7_receiveMessage_B1 x M_1 v_2
theorem w_f_X7_receiveMessage (x : Nat) (p1 : Nat) (M : mm_M) : mm_fr2 [34, 35, 33, 37, 40, 38, 39, 31, 41, 2, (x + 14), x] M (f_X7_receiveMessage x p1 M) := by
  unfold f_X7_receiveMessage
  exact ((w_f_X7_receiveMessage_B1 _ _ _).on (by simp) ((w_f_X3_decryptWithAd _ _ _ _ _ _ _ _ _).m.on (by simp) (mm_fr_refl _ _)))
set_option maxHeartbeats 4000000 in
set_option maxRecDepth 100000 in
theorem c_X7_receiveMessage (l : Launch) (D : va_G) (b0 : Nat) (r : Nat → Nat) (M : mm_M) (x : Nat) (p1 : Nat) (hx : mm_ses x) (hp1 : p1 ≤ 1000) : mm_Mi l yX7_receiveMessage cX7_receiveMessage 5 .int 5 152 D b0 r [.ref (r (x)), .ref (r (1)), .int (nI (p1)), .ref (r (2))] M (fun v M' => (v, M') = f_X7_receiveMessage x p1 M) := by
  refine mm_enter (cc := cX7_receiveMessage) (nL := 5) (ret := (some .int)) (by decide) (Nat.le_of_ble_eq_true rfl) ?_
  intro p e s m args below meth c C w ls hl
  have hl : lv_has ls 5 [(0, .ref (r (x))), (1, .ref (r (1))), (2, .int (nI (p1))), (3, .ref (r (2)))] := hl
  refine lv_aload_n C.1 C.2.1 dX7_receiveMessage_0 rfl (lv_at hl 0 rfl) ?_
  refine m_get C w (k := x) (j := 4) (v := .ref (r (x + 14))) flX7_67 (by have := hx.1; omega) hx.2.2.1 (mm_v3 hx.2.2.2.2.2.2.2.2.2.2.2.1) dX7_receiveMessage_1 ?_
  refine m_getsN C w C.2.2.2.2.2.2.2.1.2.2.2.2.2.1 C.2.2.2.2.2.2.2.2.2.2.2.1 dX7_receiveMessage_4 ?_
  refine lv_aload_n C.1 C.2.1 dX7_receiveMessage_7 rfl (lv_at hl 1 rfl) ?_
  refine lv_iconst (v := 0) C.1 C.2.1 dX7_receiveMessage_8 (by decide) ?_
  refine lv_iload_n C.1 C.2.1 dX7_receiveMessage_9 rfl (lv_at hl 2 rfl) ?_
  refine lv_aload_n C.1 C.2.1 dX7_receiveMessage_10 rfl (lv_at hl 3 rfl) ?_
  refine lv_iconst (v := 0) C.1 C.2.1 dX7_receiveMessage_11 (by decide) ?_
  refine m_cvi C w hl cvX7_130 (k := x + 14) (by have := hx.2.2.2.2.2.2.1.1; omega) hx.2.2.2.2.2.2.1.2.1 (q := (RX3, TX3, 5)) rfl rfl (As := [.ref (r (178)), .ref (r (1)), .int 0, .int (nI (p1)), .ref (r (2)), .int 0]) (rest := []) (c_X3_decryptWithAd l D b0 r M (x + 14) 178 1 0 p1 2 0 0 hx.2.2.2.2.2.2.1 (by decide) rfl (by decide) (by omega) (by decide) rfl (by decide) (by omega) (by omega) (by decide) rfl (by decide) ⟨fun _ => by omega, fun _ => by omega⟩ (by omega)) rfl rfl (Nat.le_of_ble_eq_true rfl) ⟨Nat.le_of_ble_eq_true rfl, Nat.le_of_ble_eq_true rfl⟩ ⟨Nat.zero_le _, Nat.zero_le _⟩ dX7_receiveMessage_12 (fun v_2 M_1 H locs e9 w => ?_)
  obtain ⟨ev_2, eM_1⟩ : v_2 = (f_X3_decryptWithAd (x + 14) 178 1 0 p1 2 0 0 M).1 ∧ M_1 = (f_X3_decryptWithAd (x + 14) 178 1 0 p1 2 0 0 M).2 := ⟨congrArg Prod.fst e9, congrArg Prod.snd e9⟩
  clear e9
  refine lv_istore (lv' := [(4, .int (v_2)), (0, .ref (r (x))), (1, .ref (r (1))), (2, .int (nI (p1))), (3, .ref (r (2)))]) C.1 C.2.1 dX7_receiveMessage_15 hl (by decide) rfl (fun ls hl => ?_)
  refine lv_iload C.1 C.2.1 dX7_receiveMessage_17 (lv_at hl 0 rfl) ?_
  refine lv_iconst (v := (-1)) C.1 C.2.1 dX7_receiveMessage_19 (by decide) ?_
  refine lv_icmp_ne (tgt := 33) C.1 C.2.1 dX7_receiveMessage_20 (by decide) (fun h_3 => ?_) (fun h_3 => ?_)
  · refine lv_iload C.1 C.2.1 dX7_receiveMessage_33 (lv_at hl 0 rfl) ?_
    exact m_iret C w (by subst ev_2 eM_1; exact Eq.symm (((if_pos h_3).trans rfl))) dX7_receiveMessage_35
  · refine lv_aload_n C.1 C.2.1 dX7_receiveMessage_23 rfl (lv_at hl 1 rfl) ?_
    refine lv_dup C.1 C.2.1 dX7_receiveMessage_24 rfl ?_
    refine m_get C w (k := x) (j := 11) (v := .int (M_1.1 x 11)) flX7_32 (by have := hx.1; omega) hx.2.2.1 (mm_v0 hx.2.2.2.2.2.2.2.2.2.2.2.2.2.2.2.2.2.2) dX7_receiveMessage_25 ?_
    refine lv_iconst (v := 1) C.1 C.2.1 dX7_receiveMessage_28 (by decide) ?_
    refine lv_iadd C.1 C.2.1 dX7_receiveMessage_29 ?_
    refine m_puti C w (k := x) (j := 11) (x := ((M_1.1 x 11) + (1 : Int32))) rfl flX7_32w (by have := hx.1; omega) hx.2.2.1 hx.2.2.2.2.2.2.2.2.2.2.2.2.2.2.2.2.2.2 dX7_receiveMessage_30 (fun H locs w => ?_)
    obtain ⟨M_4, eM_4⟩ : ∃ zz, zz = mm_w M_1 x 11 ((M_1.1 x 11) + (1 : Int32)) := ⟨_, rfl⟩
    rw [← eM_4] at w
    refine lv_iload C.1 C.2.1 dX7_receiveMessage_33 (lv_at hl 0 rfl) ?_
    exact m_iret C w (by subst ev_2 eM_1 eM_4; exact Eq.symm (((if_neg (fun q => q h_3)).trans rfl))) dX7_receiveMessage_35

def f_X7_refuse (x : Nat) (M : mm_M) : Int32 × mm_M :=
  let M_1 := f_X10_copyFrom (x + 5) 43 M
  let M_2 := mm_w M_1 x 11 ((M_1.1 x 11) + (1 : Int32))
  ((-1 : Int32), M_2)
theorem w_f_X7_refuse (x : Nat) (M : mm_M) : mm_fr2 [x + 6, x + 7, x + 9, ((x + 5) + 3), x] M (f_X7_refuse x M) := by
  unfold f_X7_refuse
  exact (mm_fr_w (by simp) ((w_f_X10_copyFrom _ _ _).on (by simp) (mm_fr_refl _ _))).b
set_option maxHeartbeats 4000000 in
set_option maxRecDepth 100000 in
theorem c_X7_refuse (l : Launch) (D : va_G) (b0 : Nat) (r : Nat → Nat) (M : mm_M) (x : Nat) (hx : mm_ses x) : mm_Mi l yX7_refuse cX7_refuse 1 .int 3 90 D b0 r [.ref (r (x))] M (fun v M' => (v, M') = f_X7_refuse x M) := by
  refine mm_enter (cc := cX7_refuse) (nL := 1) (ret := (some .int)) (by decide) (Nat.le_of_ble_eq_true rfl) ?_
  intro p e s m args below meth c C w ls hl
  have hl : lv_has ls 1 [(0, .ref (r (x)))] := hl
  refine lv_aload_n C.1 C.2.1 dX7_refuse_0 rfl (lv_at hl 0 rfl) ?_
  refine m_get C w (k := x) (j := 1) (v := .ref (r (x + 5))) flX7_47 (by have := hx.1; omega) hx.2.2.1 (mm_v3 hx.2.2.2.2.2.2.2.2.1) dX7_refuse_1 ?_
  refine lv_aload_n C.1 C.2.1 dX7_refuse_4 rfl (lv_at hl 0 rfl) ?_
  refine m_get C w (k := x) (j := 2) (v := .ref (r (43))) flX7_51 (by have := hx.1; omega) hx.2.2.1 (mm_v3 hx.2.2.2.2.2.2.2.2.2.1) dX7_refuse_5 ?_
  refine m_cvv C w hl cvX7_112 (k := x + 5) (by have := hx.2.2.2.2.1.1; omega) hx.2.2.2.2.1.2.1 (q := (RX10, TX10, 5)) rfl rfl (As := [.ref (r (43))]) (rest := []) (c_X10_copyFrom l D b0 r M (x + 5) 43 hx.2.2.2.2.1 mm_spare) rfl rfl (Nat.le_of_ble_eq_true rfl) ⟨Nat.le_of_ble_eq_true rfl, Nat.le_of_ble_eq_true rfl⟩ ⟨Nat.zero_le _, Nat.zero_le _⟩ dX7_refuse_8 (fun M_1 H locs eM_1 w => ?_)
  refine lv_aload_n C.1 C.2.1 dX7_refuse_11 rfl (lv_at hl 0 rfl) ?_
  refine lv_dup C.1 C.2.1 dX7_refuse_12 rfl ?_
  refine m_get C w (k := x) (j := 11) (v := .int (M_1.1 x 11)) flX7_32 (by have := hx.1; omega) hx.2.2.1 (mm_v0 hx.2.2.2.2.2.2.2.2.2.2.2.2.2.2.2.2.2.2) dX7_refuse_13 ?_
  refine lv_iconst (v := 1) C.1 C.2.1 dX7_refuse_16 (by decide) ?_
  refine lv_iadd C.1 C.2.1 dX7_refuse_17 ?_
  refine m_puti C w (k := x) (j := 11) (x := ((M_1.1 x 11) + (1 : Int32))) rfl flX7_32w (by have := hx.1; omega) hx.2.2.1 hx.2.2.2.2.2.2.2.2.2.2.2.2.2.2.2.2.2.2 dX7_refuse_18 (fun H locs w => ?_)
  obtain ⟨M_2, eM_2⟩ : ∃ zz, zz = mm_w M_1 x 11 ((M_1.1 x 11) + (1 : Int32)) := ⟨_, rfl⟩
  rw [← eM_2] at w
  refine lv_iconst (v := (-1)) C.1 C.2.1 dX7_refuse_21 (by decide) ?_
  exact m_iret C w (by subst eM_1 eM_2; exact Eq.symm (rfl)) dX7_refuse_22

theorem r_X10_enc (y k1 p1 p2 k2 p3 : Nat) (M : mm_M) : (f_X10_encryptAndHash y k1 p1 p2 k2 p3 M).1 = nI (if M.1 (y + 3) 3 = 0 then p2 else p2 + 16) := rfl

def f_X7_writeMessage_0 (x : Nat) (p1 : Nat) (M : mm_M) : Int32 × mm_M :=
  let M_2 := f_X4_publicKey (x + 2) M
  let M_3 := mm_cp M_2 15 0 2 0 32
  let M_4 := f_X10_mixHash (x + 5) 2 0 32 M_3
  let v_8 := (f_X10_encryptAndHash (x + 5) 1 0 p1 2 32 M_4).1
  let M_7 := (f_X10_encryptAndHash (x + 5) 1 0 p1 2 32 M_4).2
  let u_9 := (if M_4.1 (x + 5 + 3) 3 = 0 then p1 else p1 + 16)
  let M_10 := mm_w M_7 x 10 (1 : Int32)
  ((nI (32 + u_9)), M_10)
theorem w_f_X7_writeMessage_0 (x : Nat) (p1 : Nat) (M : mm_M) : mm_fr2 [14, 16, 17, 18, 19, 20, 22, 21, 15, 2, 24, 23, 26, 25, ((x + 5) + 1), 34, 35, 33, 37, 40, 38, 39, 31, 41, ((x + 5) + 3), x] M (f_X7_writeMessage_0 x p1 M) := by
  unfold f_X7_writeMessage_0
  exact (mm_fr_w (by simp) ((w_f_X10_encryptAndHash _ _ _ _ _ _ _).m.on (by simp) ((w_f_X10_mixHash _ _ _ _ _).on (by simp) (mm_fr_cp (by simp) ((w_f_X4_publicKey _ _).on (by simp) (mm_fr_refl _ _)))))).b
set_option maxHeartbeats 4000000 in
set_option maxRecDepth 100000 in
theorem c_X7_writeMessage_0 (l : Launch) (D : va_G) (b0 : Nat) (r : Nat → Nat) (M : mm_M) (x : Nat) (p1 : Nat) (hx : mm_ses x) (hp1 : p1 ≤ 900) (h0 : M.1 x 10 = nI 0) : mm_Mi l yX7_writeMessage cX7_writeMessage 5 .int 6 203 D b0 r [.ref (r (x)), .ref (r (1)), .int (nI (p1)), .ref (r (2))] M (fun v M' => (v, M') = f_X7_writeMessage_0 x p1 M) := by
  refine mm_enter (cc := cX7_writeMessage) (nL := 5) (ret := (some .int)) (by decide) (Nat.le_of_ble_eq_true rfl) ?_
  intro p e s m args below meth c C w ls hl
  have hl : lv_has ls 5 [(0, .ref (r (x))), (1, .ref (r (1))), (2, .int (nI (p1))), (3, .ref (r (2)))] := hl
  have hx49 := hx.2.1
  have hx16 := hx.1
  refine lv_iconst (v := 0) C.1 C.2.1 dX7_writeMessage_0 (by decide) ?_
  refine lv_istore (lv' := [(4, .int 0), (0, .ref (r (x))), (1, .ref (r (1))), (2, .int (nI (p1))), (3, .ref (r (2)))]) C.1 C.2.1 dX7_writeMessage_1 hl (by decide) rfl (fun ls hl => ?_)
  refine lv_aload_n C.1 C.2.1 dX7_writeMessage_3 rfl (lv_at hl 1 rfl) ?_
  refine m_get C w (k := x) (j := 10) (v := .int (M.1 x 10)) flX7_28 (by have := hx.1; omega) hx.2.2.1 (mm_v0 hx.2.2.2.2.2.2.2.2.2.2.2.2.2.2.2.2.2.1) dX7_writeMessage_4 ?_
  refine m_i (y := nI (0)) h0 ?_
  refine lv_iconst (v := 2) C.1 C.2.1 dX7_writeMessage_7 (by decide) ?_
  refine m_icmp_eq (tgt := 45) (a := 0) (b := 2) C (by omega) (by omega) dX7_writeMessage_8 (by decide) (fun h_1 => absurd h_1 (by decide)) (fun _ => ?_)
  refine lv_aload_n C.1 C.2.1 dX7_writeMessage_11 rfl (lv_at hl 1 rfl) ?_
  refine m_get C w (k := x) (j := 0) (v := .ref (r (13))) flX7_41 (by have := hx.1; omega) hx.2.2.1 (mm_v3 hx.2.2.2.2.2.2.2.1) dX7_writeMessage_12 ?_
  refine lv_aload_n C.1 C.2.1 dX7_writeMessage_15 rfl (lv_at hl 1 rfl) ?_
  refine m_get C w (k := x) (j := 6) (v := .ref (r (x + 2))) flX7_15 (by have := hx.1; omega) hx.2.2.1 (mm_v3 hx.2.2.2.2.2.2.2.2.2.2.2.2.2.1) dX7_writeMessage_16 ?_
  refine m_cvr C w hl cvX7_86 (k := 13) (by decide) rfl (q := (RX4, TX4, 9)) rfl rfl (As := [.ref (r (x + 2))]) (rest := []) (c_X4_publicKey l D b0 r M (x + 2) (by have := hx.1; omega) (hx.2.2.2.1 1 (by decide)) (by decide) (by omega)) rfl rfl (Nat.le_of_ble_eq_true rfl) ⟨Nat.le_of_ble_eq_true rfl, Nat.le_of_ble_eq_true rfl⟩ ⟨Nat.zero_le _, Nat.zero_le _⟩ dX7_writeMessage_19 (fun M_2 H locs eM_2 w => ?_)
  refine lv_iconst (v := 0) C.1 C.2.1 dX7_writeMessage_22 (by decide) ?_
  refine lv_aload_n C.1 C.2.1 dX7_writeMessage_23 rfl (lv_at hl 4 rfl) ?_
  refine lv_iconst (v := 0) C.1 C.2.1 dX7_writeMessage_24 (by decide) ?_
  refine lv_bipush (v := 32) C.1 C.2.1 dX7_writeMessage_25 (by decide) ?_
  refine m_cpb C w hl (k := 15) (k2 := 2) (sp := 0) (dp := 0) (n := 32) (by decide) rfl (by decide) (by decide) rfl (by decide) acX7_70 (by omega) (by omega) (Nat.le_of_ble_eq_true rfl) (Nat.le_of_ble_eq_true rfl) dX7_writeMessage_27 (fun H locs w => ?_)
  obtain ⟨M_3, eM_3⟩ : ∃ zz, zz = mm_cp M_2 15 0 2 0 32 := ⟨_, rfl⟩
  rw [← eM_3] at w
  refine lv_aload_n C.1 C.2.1 dX7_writeMessage_30 rfl (lv_at hl 1 rfl) ?_
  refine m_get C w (k := x) (j := 1) (v := .ref (r (x + 5))) flX7_47 (by have := hx.1; omega) hx.2.2.1 (mm_v3 hx.2.2.2.2.2.2.2.2.1) dX7_writeMessage_31 ?_
  refine lv_aload_n C.1 C.2.1 dX7_writeMessage_34 rfl (lv_at hl 4 rfl) ?_
  refine lv_iconst (v := 0) C.1 C.2.1 dX7_writeMessage_35 (by decide) ?_
  refine lv_bipush (v := 32) C.1 C.2.1 dX7_writeMessage_36 (by decide) ?_
  refine m_cvv C w hl cvX7_82 (k := x + 5) (by have := hx.2.2.2.2.1.1; omega) hx.2.2.2.2.1.2.1 (q := (RX10, TX10, 5)) rfl rfl (As := [.ref (r (2)), .int 0, .int 32]) (rest := []) (c_X10_mixHash l D b0 r M_3 (x + 5) 2 0 32 hx.2.2.2.2.1 (by decide) rfl (by decide) (by omega) (by omega)) rfl rfl (Nat.le_of_ble_eq_true rfl) ⟨Nat.le_of_ble_eq_true rfl, Nat.le_of_ble_eq_true rfl⟩ ⟨Nat.zero_le _, Nat.zero_le _⟩ dX7_writeMessage_38 (fun M_4 H locs eM_4 w => ?_)
  refine lv_bipush (v := 32) C.1 C.2.1 dX7_writeMessage_41 (by decide) ?_
  refine lv_istore (lv' := [(4, .int 32), (0, .ref (r (x))), (1, .ref (r (1))), (2, .int (nI (p1))), (3, .ref (r (2)))]) C.1 C.2.1 dX7_writeMessage_43 hl (by decide) rfl (fun ls hl => ?_)
  refine lv_aload_n C.1 C.2.1 dX7_writeMessage_45 rfl (lv_at hl 1 rfl) ?_
  refine m_get C w (k := x) (j := 10) (v := .int (M_4.1 x 10)) flX7_28 (by have := hx.1; omega) hx.2.2.1 (mm_v0 hx.2.2.2.2.2.2.2.2.2.2.2.2.2.2.2.2.2.1) dX7_writeMessage_46 ?_
  refine m_i (y := nI (0)) (by have hf : mm_fr [14, 16, 17, 18, 19, 20, 22, 21, 15, 2, 24, 23, 26, 25, ((x + 5) + 1)] M M_4 := (by subst eM_2 eM_3 eM_4; exact ((w_f_X10_mixHash _ _ _ _ _).on (by simp) (mm_fr_cp (by simp) ((w_f_X4_publicKey _ _).on (by simp) (mm_fr_refl _ _))))); rw [(hf x (by first | (simp; done) | (simp; omega))).1]; exact h0) ?_
  refine lv_iconst (v := 1) C.1 C.2.1 dX7_writeMessage_49 (by decide) ?_
  refine m_icmp_ne (tgt := 75) (a := 0) (b := 1) C (by omega) (by omega) dX7_writeMessage_50 (by decide) (fun _ => ?_) (fun h_5 => absurd h_5 (by decide))
  refine lv_aload_n C.1 C.2.1 dX7_writeMessage_75 rfl (lv_at hl 1 rfl) ?_
  refine m_get C w (k := x) (j := 10) (v := .int (M_4.1 x 10)) flX7_28 (by have := hx.1; omega) hx.2.2.1 (mm_v0 hx.2.2.2.2.2.2.2.2.2.2.2.2.2.2.2.2.2.1) dX7_writeMessage_76 ?_
  refine m_i (y := nI (0)) (by have hf : mm_fr [14, 16, 17, 18, 19, 20, 22, 21, 15, 2, 24, 23, 26, 25, ((x + 5) + 1)] M M_4 := (by subst eM_2 eM_3 eM_4; exact ((w_f_X10_mixHash _ _ _ _ _).on (by simp) (mm_fr_cp (by simp) ((w_f_X4_publicKey _ _).on (by simp) (mm_fr_refl _ _))))); rw [(hf x (by first | (simp; done) | (simp; omega))).1]; exact h0) ?_
  refine m_if_eq (tgt := 133) (a := 0) C (by omega) dX7_writeMessage_79 (by decide) (fun _ => ?_) (fun h_6 => absurd h_6 (by decide))
  refine lv_iload C.1 C.2.1 dX7_writeMessage_133 (lv_at hl 0 rfl) ?_
  refine lv_aload_n C.1 C.2.1 dX7_writeMessage_135 rfl (lv_at hl 1 rfl) ?_
  refine m_get C w (k := x) (j := 1) (v := .ref (r (x + 5))) flX7_47 (by have := hx.1; omega) hx.2.2.1 (mm_v3 hx.2.2.2.2.2.2.2.2.1) dX7_writeMessage_136 ?_
  refine lv_aload_n C.1 C.2.1 dX7_writeMessage_139 rfl (lv_at hl 2 rfl) ?_
  refine lv_iconst (v := 0) C.1 C.2.1 dX7_writeMessage_140 (by decide) ?_
  refine lv_iload_n C.1 C.2.1 dX7_writeMessage_141 rfl (lv_at hl 3 rfl) ?_
  refine lv_aload_n C.1 C.2.1 dX7_writeMessage_142 rfl (lv_at hl 4 rfl) ?_
  refine lv_iload C.1 C.2.1 dX7_writeMessage_143 (lv_at hl 0 rfl) ?_
  refine m_cvi C w hl cvX7_100 (k := x + 5) (by have := hx.2.2.2.2.1.1; omega) hx.2.2.2.2.1.2.1 (q := (RX10, TX10, 5)) rfl rfl (As := [.ref (r (1)), .int 0, .int (nI (p1)), .ref (r (2)), .int 32]) (rest := [.int 32]) (c_X10_encryptAndHash l D b0 r M_4 (x + 5) 1 0 p1 2 32 hx.2.2.2.2.1 (by decide) rfl (by decide) (by omega) (by omega) (by decide) rfl (by decide) (by omega) (by omega)) rfl rfl (Nat.le_of_ble_eq_true rfl) ⟨Nat.le_of_ble_eq_true rfl, Nat.le_of_ble_eq_true rfl⟩ ⟨Nat.zero_le _, Nat.zero_le _⟩ dX7_writeMessage_145 (fun v_8 M_7 H locs e9 w => ?_)
  obtain ⟨ev_8, eM_7⟩ : v_8 = (f_X10_encryptAndHash (x + 5) 1 0 p1 2 32 M_4).1 ∧ M_7 = (f_X10_encryptAndHash (x + 5) 1 0 p1 2 32 M_4).2 := ⟨congrArg Prod.fst e9, congrArg Prod.snd e9⟩
  clear e9
  obtain ⟨u_9, eu_9⟩ : ∃ zz, zz = (if M_4.1 (x + 5 + 3) 3 = 0 then p1 else p1 + 16) := ⟨_, rfl⟩
  have hu_9 : u_9 ≤ p1 + 16 := by rw [eu_9]; split <;> omega
  refine m_i (y := nI (u_9)) (by rw [ev_8, eu_9]; exact r_X10_enc _ _ _ _ _ _ _) ?_
  refine lv_iadd C.1 C.2.1 dX7_writeMessage_148 ?_
  refine m_i (y := nI (32 + u_9)) (nI_add 32 u_9) ?_
  refine lv_istore (lv' := [(4, .int (nI (32 + u_9))), (0, .ref (r (x))), (1, .ref (r (1))), (2, .int (nI (p1))), (3, .ref (r (2)))]) C.1 C.2.1 dX7_writeMessage_149 hl (by decide) rfl (fun ls hl => ?_)
  refine lv_aload_n C.1 C.2.1 dX7_writeMessage_151 rfl (lv_at hl 1 rfl) ?_
  refine lv_dup C.1 C.2.1 dX7_writeMessage_152 rfl ?_
  refine m_get C w (k := x) (j := 10) (v := .int (M_7.1 x 10)) flX7_28 (by have := hx.1; omega) hx.2.2.1 (mm_v0 hx.2.2.2.2.2.2.2.2.2.2.2.2.2.2.2.2.2.1) dX7_writeMessage_153 ?_
  refine m_i (y := nI (0)) (by have hf : mm_fr [14, 16, 17, 18, 19, 20, 22, 21, 15, 2, 24, 23, 26, 25, ((x + 5) + 1), 34, 35, 33, 37, 40, 38, 39, 31, 41, ((x + 5) + 3)] M M_7 := (by subst eM_2 eM_3 eM_4 ev_8 eM_7 eu_9; exact ((w_f_X10_encryptAndHash _ _ _ _ _ _ _).m.on (by simp) ((w_f_X10_mixHash _ _ _ _ _).on (by simp) (mm_fr_cp (by simp) ((w_f_X4_publicKey _ _).on (by simp) (mm_fr_refl _ _)))))); rw [(hf x (by first | (simp; done) | (simp; omega))).1]; exact h0) ?_
  refine lv_iconst (v := 1) C.1 C.2.1 dX7_writeMessage_156 (by decide) ?_
  refine lv_iadd C.1 C.2.1 dX7_writeMessage_157 ?_
  refine m_i (y := nI (1)) (nI_add 0 1) ?_
  refine m_puti C w (k := x) (j := 10) (x := (1 : Int32)) rfl flX7_28w (by have := hx.1; omega) hx.2.2.1 hx.2.2.2.2.2.2.2.2.2.2.2.2.2.2.2.2.2.1 dX7_writeMessage_158 (fun H locs w => ?_)
  obtain ⟨M_10, eM_10⟩ : ∃ zz, zz = mm_w M_7 x 10 (1 : Int32) := ⟨_, rfl⟩
  rw [← eM_10] at w
  refine lv_aload_n C.1 C.2.1 dX7_writeMessage_161 rfl (lv_at hl 1 rfl) ?_
  refine m_get C w (k := x) (j := 10) (v := .int (M_10.1 x 10)) flX7_28 (by have := hx.1; omega) hx.2.2.1 (mm_v0 hx.2.2.2.2.2.2.2.2.2.2.2.2.2.2.2.2.2.1) dX7_writeMessage_162 ?_
  refine m_i (y := nI (1)) (by rw [eM_10]; simp [mm_w]; try rfl) ?_
  refine lv_iconst (v := 3) C.1 C.2.1 dX7_writeMessage_165 (by decide) ?_
  refine m_icmp_ne (tgt := 184) (a := 1) (b := 3) C (by omega) (by omega) dX7_writeMessage_166 (by decide) (fun _ => ?_) (fun h_11 => absurd h_11 (by decide))
  refine lv_iload C.1 C.2.1 dX7_writeMessage_184 (lv_at hl 0 rfl) ?_
  exact m_iret C w (by subst eM_2 eM_3 eM_4 ev_8 eM_7 eu_9 eM_10; exact Eq.symm (rfl)) dX7_writeMessage_186

def f_X7_writeMessage_1 (x : Nat) (p1 : Nat) (M : mm_M) : Int32 × mm_M :=
  let M_2 := f_X4_publicKey (x + 2) M
  let M_3 := mm_cp M_2 15 0 2 0 32
  let M_4 := f_X10_mixHash (x + 5) 2 0 32 M_3
  let M_6 := f_X4_multiply (x + 2) (x + 4) M_4
  let M_7 := f_X10_mixKey (x + 5) 15 M_6
  let M_9 := f_X4_publicKey (x + 1) M_7
  let v_11 := (f_X10_encryptAndHash (x + 5) 15 0 32 2 32 M_9).1
  let M_10 := (f_X10_encryptAndHash (x + 5) 15 0 32 2 32 M_9).2
  let u_12 := (if M_9.1 (x + 5 + 3) 3 = 0 then 32 else 32 + 16)
  let M_13 := f_X4_multiply (x + 1) (x + 4) M_10
  let M_14 := f_X10_mixKey (x + 5) 15 M_13
  let v_16 := (f_X10_encryptAndHash (x + 5) 1 0 p1 2 (32 + u_12) M_14).1
  let M_15 := (f_X10_encryptAndHash (x + 5) 1 0 p1 2 (32 + u_12) M_14).2
  let u_17 := (if M_14.1 (x + 5 + 3) 3 = 0 then p1 else p1 + 16)
  let M_18 := mm_w M_15 x 10 (2 : Int32)
  ((nI (32 + u_12 + u_17)), M_18)
theorem w_f_X7_writeMessage_1 (x : Nat) (p1 : Nat) (M : mm_M) : mm_fr2 [14, 16, 17, 18, 19, 20, 22, 21, 15, 2, 24, 23, 26, 25, ((x + 5) + 1), 28, 29, 30, ((x + 5) + 2), ((x + 5) + 4), ((x + 5) + 3), 34, 35, 33, 37, 40, 38, 39, 31, 41, x] M (f_X7_writeMessage_1 x p1 M) := by
  unfold f_X7_writeMessage_1
  exact (mm_fr_w (by simp) ((w_f_X10_encryptAndHash _ _ _ _ _ _ _).m.on (by simp) ((w_f_X10_mixKey _ _ _).on (by simp) ((w_f_X4_multiply _ _ _).on (by simp) ((w_f_X10_encryptAndHash _ _ _ _ _ _ _).m.on (by simp) ((w_f_X4_publicKey _ _).on (by simp) ((w_f_X10_mixKey _ _ _).on (by simp) ((w_f_X4_multiply _ _ _).on (by simp) ((w_f_X10_mixHash _ _ _ _ _).on (by simp) (mm_fr_cp (by simp) ((w_f_X4_publicKey _ _).on (by simp) (mm_fr_refl _ _)))))))))))).b
set_option maxHeartbeats 4000000 in
set_option maxRecDepth 100000 in
theorem c_X7_writeMessage_1 (l : Launch) (D : va_G) (b0 : Nat) (r : Nat → Nat) (M : mm_M) (x : Nat) (p1 : Nat) (hx : mm_ses x) (hp1 : p1 ≤ 900) (h0 : M.1 x 10 = nI 1) : mm_Mi l yX7_writeMessage cX7_writeMessage 5 .int 6 203 D b0 r [.ref (r (x)), .ref (r (1)), .int (nI (p1)), .ref (r (2))] M (fun v M' => (v, M') = f_X7_writeMessage_1 x p1 M) := by
  refine mm_enter (cc := cX7_writeMessage) (nL := 5) (ret := (some .int)) (by decide) (Nat.le_of_ble_eq_true rfl) ?_
  intro p e s m args below meth c C w ls hl
  have hl : lv_has ls 5 [(0, .ref (r (x))), (1, .ref (r (1))), (2, .int (nI (p1))), (3, .ref (r (2)))] := hl
  have hx49 := hx.2.1
  have hx16 := hx.1
  refine lv_iconst (v := 0) C.1 C.2.1 dX7_writeMessage_0 (by decide) ?_
  refine lv_istore (lv' := [(4, .int 0), (0, .ref (r (x))), (1, .ref (r (1))), (2, .int (nI (p1))), (3, .ref (r (2)))]) C.1 C.2.1 dX7_writeMessage_1 hl (by decide) rfl (fun ls hl => ?_)
  refine lv_aload_n C.1 C.2.1 dX7_writeMessage_3 rfl (lv_at hl 1 rfl) ?_
  refine m_get C w (k := x) (j := 10) (v := .int (M.1 x 10)) flX7_28 (by have := hx.1; omega) hx.2.2.1 (mm_v0 hx.2.2.2.2.2.2.2.2.2.2.2.2.2.2.2.2.2.1) dX7_writeMessage_4 ?_
  refine m_i (y := nI (1)) h0 ?_
  refine lv_iconst (v := 2) C.1 C.2.1 dX7_writeMessage_7 (by decide) ?_
  refine m_icmp_eq (tgt := 45) (a := 1) (b := 2) C (by omega) (by omega) dX7_writeMessage_8 (by decide) (fun h_1 => absurd h_1 (by decide)) (fun _ => ?_)
  refine lv_aload_n C.1 C.2.1 dX7_writeMessage_11 rfl (lv_at hl 1 rfl) ?_
  refine m_get C w (k := x) (j := 0) (v := .ref (r (13))) flX7_41 (by have := hx.1; omega) hx.2.2.1 (mm_v3 hx.2.2.2.2.2.2.2.1) dX7_writeMessage_12 ?_
  refine lv_aload_n C.1 C.2.1 dX7_writeMessage_15 rfl (lv_at hl 1 rfl) ?_
  refine m_get C w (k := x) (j := 6) (v := .ref (r (x + 2))) flX7_15 (by have := hx.1; omega) hx.2.2.1 (mm_v3 hx.2.2.2.2.2.2.2.2.2.2.2.2.2.1) dX7_writeMessage_16 ?_
  refine m_cvr C w hl cvX7_86 (k := 13) (by decide) rfl (q := (RX4, TX4, 9)) rfl rfl (As := [.ref (r (x + 2))]) (rest := []) (c_X4_publicKey l D b0 r M (x + 2) (by have := hx.1; omega) (hx.2.2.2.1 1 (by decide)) (by decide) (by omega)) rfl rfl (Nat.le_of_ble_eq_true rfl) ⟨Nat.le_of_ble_eq_true rfl, Nat.le_of_ble_eq_true rfl⟩ ⟨Nat.zero_le _, Nat.zero_le _⟩ dX7_writeMessage_19 (fun M_2 H locs eM_2 w => ?_)
  refine lv_iconst (v := 0) C.1 C.2.1 dX7_writeMessage_22 (by decide) ?_
  refine lv_aload_n C.1 C.2.1 dX7_writeMessage_23 rfl (lv_at hl 4 rfl) ?_
  refine lv_iconst (v := 0) C.1 C.2.1 dX7_writeMessage_24 (by decide) ?_
  refine lv_bipush (v := 32) C.1 C.2.1 dX7_writeMessage_25 (by decide) ?_
  refine m_cpb C w hl (k := 15) (k2 := 2) (sp := 0) (dp := 0) (n := 32) (by decide) rfl (by decide) (by decide) rfl (by decide) acX7_70 (by omega) (by omega) (Nat.le_of_ble_eq_true rfl) (Nat.le_of_ble_eq_true rfl) dX7_writeMessage_27 (fun H locs w => ?_)
  obtain ⟨M_3, eM_3⟩ : ∃ zz, zz = mm_cp M_2 15 0 2 0 32 := ⟨_, rfl⟩
  rw [← eM_3] at w
  refine lv_aload_n C.1 C.2.1 dX7_writeMessage_30 rfl (lv_at hl 1 rfl) ?_
  refine m_get C w (k := x) (j := 1) (v := .ref (r (x + 5))) flX7_47 (by have := hx.1; omega) hx.2.2.1 (mm_v3 hx.2.2.2.2.2.2.2.2.1) dX7_writeMessage_31 ?_
  refine lv_aload_n C.1 C.2.1 dX7_writeMessage_34 rfl (lv_at hl 4 rfl) ?_
  refine lv_iconst (v := 0) C.1 C.2.1 dX7_writeMessage_35 (by decide) ?_
  refine lv_bipush (v := 32) C.1 C.2.1 dX7_writeMessage_36 (by decide) ?_
  refine m_cvv C w hl cvX7_82 (k := x + 5) (by have := hx.2.2.2.2.1.1; omega) hx.2.2.2.2.1.2.1 (q := (RX10, TX10, 5)) rfl rfl (As := [.ref (r (2)), .int 0, .int 32]) (rest := []) (c_X10_mixHash l D b0 r M_3 (x + 5) 2 0 32 hx.2.2.2.2.1 (by decide) rfl (by decide) (by omega) (by omega)) rfl rfl (Nat.le_of_ble_eq_true rfl) ⟨Nat.le_of_ble_eq_true rfl, Nat.le_of_ble_eq_true rfl⟩ ⟨Nat.zero_le _, Nat.zero_le _⟩ dX7_writeMessage_38 (fun M_4 H locs eM_4 w => ?_)
  refine lv_bipush (v := 32) C.1 C.2.1 dX7_writeMessage_41 (by decide) ?_
  refine lv_istore (lv' := [(4, .int 32), (0, .ref (r (x))), (1, .ref (r (1))), (2, .int (nI (p1))), (3, .ref (r (2)))]) C.1 C.2.1 dX7_writeMessage_43 hl (by decide) rfl (fun ls hl => ?_)
  refine lv_aload_n C.1 C.2.1 dX7_writeMessage_45 rfl (lv_at hl 1 rfl) ?_
  refine m_get C w (k := x) (j := 10) (v := .int (M_4.1 x 10)) flX7_28 (by have := hx.1; omega) hx.2.2.1 (mm_v0 hx.2.2.2.2.2.2.2.2.2.2.2.2.2.2.2.2.2.1) dX7_writeMessage_46 ?_
  refine m_i (y := nI (1)) (by have hf : mm_fr [14, 16, 17, 18, 19, 20, 22, 21, 15, 2, 24, 23, 26, 25, ((x + 5) + 1)] M M_4 := (by subst eM_2 eM_3 eM_4; exact ((w_f_X10_mixHash _ _ _ _ _).on (by simp) (mm_fr_cp (by simp) ((w_f_X4_publicKey _ _).on (by simp) (mm_fr_refl _ _))))); rw [(hf x (by first | (simp; done) | (simp; omega))).1]; exact h0) ?_
  refine lv_iconst (v := 1) C.1 C.2.1 dX7_writeMessage_49 (by decide) ?_
  refine m_icmp_ne (tgt := 75) (a := 1) (b := 1) C (by omega) (by omega) dX7_writeMessage_50 (by decide) (fun h_5 => absurd h_5 (by decide)) (fun _ => ?_)
  refine lv_aload_n C.1 C.2.1 dX7_writeMessage_53 rfl (lv_at hl 1 rfl) ?_
  refine m_get C w (k := x) (j := 1) (v := .ref (r (x + 5))) flX7_47 (by have := hx.1; omega) hx.2.2.1 (mm_v3 hx.2.2.2.2.2.2.2.2.1) dX7_writeMessage_54 ?_
  refine lv_aload_n C.1 C.2.1 dX7_writeMessage_57 rfl (lv_at hl 1 rfl) ?_
  refine m_get C w (k := x) (j := 0) (v := .ref (r (13))) flX7_41 (by have := hx.1; omega) hx.2.2.1 (mm_v3 hx.2.2.2.2.2.2.2.1) dX7_writeMessage_58 ?_
  refine lv_aload_n C.1 C.2.1 dX7_writeMessage_61 rfl (lv_at hl 1 rfl) ?_
  refine m_get C w (k := x) (j := 6) (v := .ref (r (x + 2))) flX7_15 (by have := hx.1; omega) hx.2.2.1 (mm_v3 hx.2.2.2.2.2.2.2.2.2.2.2.2.2.1) dX7_writeMessage_62 ?_
  refine lv_aload_n C.1 C.2.1 dX7_writeMessage_65 rfl (lv_at hl 1 rfl) ?_
  refine m_get C w (k := x) (j := 8) (v := .ref (r (x + 4))) flX7_21 (by have := hx.1; omega) hx.2.2.1 (mm_v3 hx.2.2.2.2.2.2.2.2.2.2.2.2.2.2.2.1) dX7_writeMessage_66 ?_
  refine m_cvr C w hl cvX7_92 (k := 13) (by decide) rfl (q := (RX4, TX4, 9)) rfl rfl (As := [.ref (r (x + 2)), .ref (r (x + 4))]) (rest := [.ref (r (x + 5))]) (c_X4_multiply l D b0 r M_4 (x + 2) (x + 4) (by have := hx.1; omega) (hx.2.2.2.1 1 (by decide)) (by decide) (by omega) (by have := hx.1; omega) (hx.2.2.2.1 3 (by decide)) (by decide) (by omega)) rfl rfl (Nat.le_of_ble_eq_true rfl) ⟨Nat.le_of_ble_eq_true rfl, Nat.le_of_ble_eq_true rfl⟩ ⟨Nat.zero_le _, Nat.zero_le _⟩ dX7_writeMessage_69 (fun M_6 H locs eM_6 w => ?_)
  refine m_cvv C w hl cvX7_96 (k := x + 5) (by have := hx.2.2.2.2.1.1; omega) hx.2.2.2.2.1.2.1 (q := (RX10, TX10, 5)) rfl rfl (As := [.ref (r (15))]) (rest := []) (c_X10_mixKey l D b0 r M_6 (x + 5) 15 hx.2.2.2.2.1 (by decide) rfl (by decide) (by omega) (by omega)) rfl rfl (Nat.le_of_ble_eq_true rfl) ⟨Nat.le_of_ble_eq_true rfl, Nat.le_of_ble_eq_true rfl⟩ ⟨Nat.zero_le _, Nat.zero_le _⟩ dX7_writeMessage_72 (fun M_7 H locs eM_7 w => ?_)
  refine lv_aload_n C.1 C.2.1 dX7_writeMessage_75 rfl (lv_at hl 1 rfl) ?_
  refine m_get C w (k := x) (j := 10) (v := .int (M_7.1 x 10)) flX7_28 (by have := hx.1; omega) hx.2.2.1 (mm_v0 hx.2.2.2.2.2.2.2.2.2.2.2.2.2.2.2.2.2.1) dX7_writeMessage_76 ?_
  refine m_i (y := nI (1)) (by have hf : mm_fr [14, 16, 17, 18, 19, 20, 22, 21, 15, 2, 24, 23, 26, 25, ((x + 5) + 1), 28, 29, 30, ((x + 5) + 2), ((x + 5) + 4), ((x + 5) + 3)] M M_7 := (by subst eM_2 eM_3 eM_4 eM_6 eM_7; exact ((w_f_X10_mixKey _ _ _).on (by simp) ((w_f_X4_multiply _ _ _).on (by simp) ((w_f_X10_mixHash _ _ _ _ _).on (by simp) (mm_fr_cp (by simp) ((w_f_X4_publicKey _ _).on (by simp) (mm_fr_refl _ _))))))); rw [(hf x (by first | (simp; done) | (simp; omega))).1]; exact h0) ?_
  refine m_if_eq (tgt := 133) (a := 1) C (by omega) dX7_writeMessage_79 (by decide) (fun h_8 => absurd h_8 (by decide)) (fun _ => ?_)
  refine lv_iload C.1 C.2.1 dX7_writeMessage_82 (lv_at hl 0 rfl) ?_
  refine lv_aload_n C.1 C.2.1 dX7_writeMessage_84 rfl (lv_at hl 1 rfl) ?_
  refine m_get C w (k := x) (j := 1) (v := .ref (r (x + 5))) flX7_47 (by have := hx.1; omega) hx.2.2.1 (mm_v3 hx.2.2.2.2.2.2.2.2.1) dX7_writeMessage_85 ?_
  refine lv_aload_n C.1 C.2.1 dX7_writeMessage_88 rfl (lv_at hl 1 rfl) ?_
  refine m_get C w (k := x) (j := 0) (v := .ref (r (13))) flX7_41 (by have := hx.1; omega) hx.2.2.1 (mm_v3 hx.2.2.2.2.2.2.2.1) dX7_writeMessage_89 ?_
  refine lv_aload_n C.1 C.2.1 dX7_writeMessage_92 rfl (lv_at hl 1 rfl) ?_
  refine m_get C w (k := x) (j := 5) (v := .ref (r (x + 1))) flX7_9 (by have := hx.1; omega) hx.2.2.1 (mm_v3 hx.2.2.2.2.2.2.2.2.2.2.2.2.1) dX7_writeMessage_93 ?_
  refine m_cvr C w hl cvX7_86 (k := 13) (by decide) rfl (q := (RX4, TX4, 9)) rfl rfl (As := [.ref (r (x + 1))]) (rest := [.ref (r (x + 5)), .int 32]) (c_X4_publicKey l D b0 r M_7 (x + 1) (by have := hx.1; omega) (hx.2.2.2.1 0 (by decide)) (by decide) (by omega)) rfl rfl (Nat.le_of_ble_eq_true rfl) ⟨Nat.le_of_ble_eq_true rfl, Nat.le_of_ble_eq_true rfl⟩ ⟨Nat.zero_le _, Nat.zero_le _⟩ dX7_writeMessage_96 (fun M_9 H locs eM_9 w => ?_)
  refine lv_iconst (v := 0) C.1 C.2.1 dX7_writeMessage_99 (by decide) ?_
  refine lv_bipush (v := 32) C.1 C.2.1 dX7_writeMessage_100 (by decide) ?_
  refine lv_aload_n C.1 C.2.1 dX7_writeMessage_102 rfl (lv_at hl 4 rfl) ?_
  refine lv_iload C.1 C.2.1 dX7_writeMessage_103 (lv_at hl 0 rfl) ?_
  refine m_cvi C w hl cvX7_100 (k := x + 5) (by have := hx.2.2.2.2.1.1; omega) hx.2.2.2.2.1.2.1 (q := (RX10, TX10, 5)) rfl rfl (As := [.ref (r (15)), .int 0, .int 32, .ref (r (2)), .int 32]) (rest := [.int 32]) (c_X10_encryptAndHash l D b0 r M_9 (x + 5) 15 0 32 2 32 hx.2.2.2.2.1 (by decide) rfl (by decide) (by omega) (by omega) (by decide) rfl (by decide) (by omega) (by omega)) rfl rfl (Nat.le_of_ble_eq_true rfl) ⟨Nat.le_of_ble_eq_true rfl, Nat.le_of_ble_eq_true rfl⟩ ⟨Nat.zero_le _, Nat.zero_le _⟩ dX7_writeMessage_105 (fun v_11 M_10 H locs e9 w => ?_)
  obtain ⟨ev_11, eM_10⟩ : v_11 = (f_X10_encryptAndHash (x + 5) 15 0 32 2 32 M_9).1 ∧ M_10 = (f_X10_encryptAndHash (x + 5) 15 0 32 2 32 M_9).2 := ⟨congrArg Prod.fst e9, congrArg Prod.snd e9⟩
  clear e9
  obtain ⟨u_12, eu_12⟩ : ∃ zz, zz = (if M_9.1 (x + 5 + 3) 3 = 0 then 32 else 32 + 16) := ⟨_, rfl⟩
  have hu_12 : u_12 ≤ 32 + 16 := by rw [eu_12]; split <;> omega
  refine m_i (y := nI (u_12)) (by rw [ev_11, eu_12]; exact r_X10_enc _ _ _ _ _ _ _) ?_
  refine lv_iadd C.1 C.2.1 dX7_writeMessage_108 ?_
  refine m_i (y := nI (32 + u_12)) (nI_add 32 u_12) ?_
  refine lv_istore (lv' := [(4, .int (nI (32 + u_12))), (0, .ref (r (x))), (1, .ref (r (1))), (2, .int (nI (p1))), (3, .ref (r (2)))]) C.1 C.2.1 dX7_writeMessage_109 hl (by decide) rfl (fun ls hl => ?_)
  refine lv_aload_n C.1 C.2.1 dX7_writeMessage_111 rfl (lv_at hl 1 rfl) ?_
  refine m_get C w (k := x) (j := 1) (v := .ref (r (x + 5))) flX7_47 (by have := hx.1; omega) hx.2.2.1 (mm_v3 hx.2.2.2.2.2.2.2.2.1) dX7_writeMessage_112 ?_
  refine lv_aload_n C.1 C.2.1 dX7_writeMessage_115 rfl (lv_at hl 1 rfl) ?_
  refine m_get C w (k := x) (j := 0) (v := .ref (r (13))) flX7_41 (by have := hx.1; omega) hx.2.2.1 (mm_v3 hx.2.2.2.2.2.2.2.1) dX7_writeMessage_116 ?_
  refine lv_aload_n C.1 C.2.1 dX7_writeMessage_119 rfl (lv_at hl 1 rfl) ?_
  refine m_get C w (k := x) (j := 5) (v := .ref (r (x + 1))) flX7_9 (by have := hx.1; omega) hx.2.2.1 (mm_v3 hx.2.2.2.2.2.2.2.2.2.2.2.2.1) dX7_writeMessage_120 ?_
  refine lv_aload_n C.1 C.2.1 dX7_writeMessage_123 rfl (lv_at hl 1 rfl) ?_
  refine m_get C w (k := x) (j := 8) (v := .ref (r (x + 4))) flX7_21 (by have := hx.1; omega) hx.2.2.1 (mm_v3 hx.2.2.2.2.2.2.2.2.2.2.2.2.2.2.2.1) dX7_writeMessage_124 ?_
  refine m_cvr C w hl cvX7_92 (k := 13) (by decide) rfl (q := (RX4, TX4, 9)) rfl rfl (As := [.ref (r (x + 1)), .ref (r (x + 4))]) (rest := [.ref (r (x + 5))]) (c_X4_multiply l D b0 r M_10 (x + 1) (x + 4) (by have := hx.1; omega) (hx.2.2.2.1 0 (by decide)) (by decide) (by omega) (by have := hx.1; omega) (hx.2.2.2.1 3 (by decide)) (by decide) (by omega)) rfl rfl (Nat.le_of_ble_eq_true rfl) ⟨Nat.le_of_ble_eq_true rfl, Nat.le_of_ble_eq_true rfl⟩ ⟨Nat.zero_le _, Nat.zero_le _⟩ dX7_writeMessage_127 (fun M_13 H locs eM_13 w => ?_)
  refine m_cvv C w hl cvX7_96 (k := x + 5) (by have := hx.2.2.2.2.1.1; omega) hx.2.2.2.2.1.2.1 (q := (RX10, TX10, 5)) rfl rfl (As := [.ref (r (15))]) (rest := []) (c_X10_mixKey l D b0 r M_13 (x + 5) 15 hx.2.2.2.2.1 (by decide) rfl (by decide) (by omega) (by omega)) rfl rfl (Nat.le_of_ble_eq_true rfl) ⟨Nat.le_of_ble_eq_true rfl, Nat.le_of_ble_eq_true rfl⟩ ⟨Nat.zero_le _, Nat.zero_le _⟩ dX7_writeMessage_130 (fun M_14 H locs eM_14 w => ?_)
  refine lv_iload C.1 C.2.1 dX7_writeMessage_133 (lv_at hl 0 rfl) ?_
  refine lv_aload_n C.1 C.2.1 dX7_writeMessage_135 rfl (lv_at hl 1 rfl) ?_
  refine m_get C w (k := x) (j := 1) (v := .ref (r (x + 5))) flX7_47 (by have := hx.1; omega) hx.2.2.1 (mm_v3 hx.2.2.2.2.2.2.2.2.1) dX7_writeMessage_136 ?_
  refine lv_aload_n C.1 C.2.1 dX7_writeMessage_139 rfl (lv_at hl 2 rfl) ?_
  refine lv_iconst (v := 0) C.1 C.2.1 dX7_writeMessage_140 (by decide) ?_
  refine lv_iload_n C.1 C.2.1 dX7_writeMessage_141 rfl (lv_at hl 3 rfl) ?_
  refine lv_aload_n C.1 C.2.1 dX7_writeMessage_142 rfl (lv_at hl 4 rfl) ?_
  refine lv_iload C.1 C.2.1 dX7_writeMessage_143 (lv_at hl 0 rfl) ?_
  refine m_cvi C w hl cvX7_100 (k := x + 5) (by have := hx.2.2.2.2.1.1; omega) hx.2.2.2.2.1.2.1 (q := (RX10, TX10, 5)) rfl rfl (As := [.ref (r (1)), .int 0, .int (nI (p1)), .ref (r (2)), .int (nI (32 + u_12))]) (rest := [.int (nI (32 + u_12))]) (c_X10_encryptAndHash l D b0 r M_14 (x + 5) 1 0 p1 2 (32 + u_12) hx.2.2.2.2.1 (by decide) rfl (by decide) (by omega) (by omega) (by decide) rfl (by decide) (by omega) (by omega)) rfl rfl (Nat.le_of_ble_eq_true rfl) ⟨Nat.le_of_ble_eq_true rfl, Nat.le_of_ble_eq_true rfl⟩ ⟨Nat.zero_le _, Nat.zero_le _⟩ dX7_writeMessage_145 (fun v_16 M_15 H locs e9 w => ?_)
  obtain ⟨ev_16, eM_15⟩ : v_16 = (f_X10_encryptAndHash (x + 5) 1 0 p1 2 (32 + u_12) M_14).1 ∧ M_15 = (f_X10_encryptAndHash (x + 5) 1 0 p1 2 (32 + u_12) M_14).2 := ⟨congrArg Prod.fst e9, congrArg Prod.snd e9⟩
  clear e9
  obtain ⟨u_17, eu_17⟩ : ∃ zz, zz = (if M_14.1 (x + 5 + 3) 3 = 0 then p1 else p1 + 16) := ⟨_, rfl⟩
  have hu_17 : u_17 ≤ p1 + 16 := by rw [eu_17]; split <;> omega
  refine m_i (y := nI (u_17)) (by rw [ev_16, eu_17]; exact r_X10_enc _ _ _ _ _ _ _) ?_
  refine lv_iadd C.1 C.2.1 dX7_writeMessage_148 ?_
  refine m_i (y := nI (32 + u_12 + u_17)) (nI_add (32 + u_12) u_17) ?_
  refine lv_istore (lv' := [(4, .int (nI (32 + u_12 + u_17))), (0, .ref (r (x))), (1, .ref (r (1))), (2, .int (nI (p1))), (3, .ref (r (2)))]) C.1 C.2.1 dX7_writeMessage_149 hl (by decide) rfl (fun ls hl => ?_)
  refine lv_aload_n C.1 C.2.1 dX7_writeMessage_151 rfl (lv_at hl 1 rfl) ?_
  refine lv_dup C.1 C.2.1 dX7_writeMessage_152 rfl ?_
  refine m_get C w (k := x) (j := 10) (v := .int (M_15.1 x 10)) flX7_28 (by have := hx.1; omega) hx.2.2.1 (mm_v0 hx.2.2.2.2.2.2.2.2.2.2.2.2.2.2.2.2.2.1) dX7_writeMessage_153 ?_
  refine m_i (y := nI (1)) (by have hf : mm_fr [14, 16, 17, 18, 19, 20, 22, 21, 15, 2, 24, 23, 26, 25, ((x + 5) + 1), 28, 29, 30, ((x + 5) + 2), ((x + 5) + 4), ((x + 5) + 3), 34, 35, 33, 37, 40, 38, 39, 31, 41] M M_15 := (by subst eM_2 eM_3 eM_4 eM_6 eM_7 eM_9 ev_11 eM_10 eu_12 eM_13 eM_14 ev_16 eM_15 eu_17; exact ((w_f_X10_encryptAndHash _ _ _ _ _ _ _).m.on (by simp) ((w_f_X10_mixKey _ _ _).on (by simp) ((w_f_X4_multiply _ _ _).on (by simp) ((w_f_X10_encryptAndHash _ _ _ _ _ _ _).m.on (by simp) ((w_f_X4_publicKey _ _).on (by simp) ((w_f_X10_mixKey _ _ _).on (by simp) ((w_f_X4_multiply _ _ _).on (by simp) ((w_f_X10_mixHash _ _ _ _ _).on (by simp) (mm_fr_cp (by simp) ((w_f_X4_publicKey _ _).on (by simp) (mm_fr_refl _ _)))))))))))); rw [(hf x (by first | (simp; done) | (simp; omega))).1]; exact h0) ?_
  refine lv_iconst (v := 1) C.1 C.2.1 dX7_writeMessage_156 (by decide) ?_
  refine lv_iadd C.1 C.2.1 dX7_writeMessage_157 ?_
  refine m_i (y := nI (2)) (nI_add 1 1) ?_
  refine m_puti C w (k := x) (j := 10) (x := (2 : Int32)) rfl flX7_28w (by have := hx.1; omega) hx.2.2.1 hx.2.2.2.2.2.2.2.2.2.2.2.2.2.2.2.2.2.1 dX7_writeMessage_158 (fun H locs w => ?_)
  obtain ⟨M_18, eM_18⟩ : ∃ zz, zz = mm_w M_15 x 10 (2 : Int32) := ⟨_, rfl⟩
  rw [← eM_18] at w
  refine lv_aload_n C.1 C.2.1 dX7_writeMessage_161 rfl (lv_at hl 1 rfl) ?_
  refine m_get C w (k := x) (j := 10) (v := .int (M_18.1 x 10)) flX7_28 (by have := hx.1; omega) hx.2.2.1 (mm_v0 hx.2.2.2.2.2.2.2.2.2.2.2.2.2.2.2.2.2.1) dX7_writeMessage_162 ?_
  refine m_i (y := nI (2)) (by rw [eM_18]; simp [mm_w]; try rfl) ?_
  refine lv_iconst (v := 3) C.1 C.2.1 dX7_writeMessage_165 (by decide) ?_
  refine m_icmp_ne (tgt := 184) (a := 2) (b := 3) C (by omega) (by omega) dX7_writeMessage_166 (by decide) (fun _ => ?_) (fun h_19 => absurd h_19 (by decide))
  refine lv_iload C.1 C.2.1 dX7_writeMessage_184 (lv_at hl 0 rfl) ?_
  exact m_iret C w (by subst eM_2 eM_3 eM_4 eM_6 eM_7 eM_9 ev_11 eM_10 eu_12 eM_13 eM_14 ev_16 eM_15 eu_17 eM_18; exact Eq.symm (rfl)) dX7_writeMessage_186

def f_X7_writeMessage_2 (x : Nat) (p1 : Nat) (M : mm_M) : Int32 × mm_M :=
  let M_4 := f_X4_publicKey (x + 1) M
  let v_6 := (f_X10_encryptAndHash (x + 5) 15 0 32 2 0 M_4).1
  let M_5 := (f_X10_encryptAndHash (x + 5) 15 0 32 2 0 M_4).2
  let u_7 := (if M_4.1 (x + 5 + 3) 3 = 0 then 32 else 32 + 16)
  let M_8 := f_X4_multiply (x + 1) (x + 4) M_5
  let M_9 := f_X10_mixKey (x + 5) 15 M_8
  let v_11 := (f_X10_encryptAndHash (x + 5) 1 0 p1 2 (0 + u_7) M_9).1
  let M_10 := (f_X10_encryptAndHash (x + 5) 1 0 p1 2 (0 + u_7) M_9).2
  let u_12 := (if M_9.1 (x + 5 + 3) 3 = 0 then p1 else p1 + 16)
  let M_13 := mm_w M_10 x 10 (3 : Int32)
  let M_15 := f_X10_split (x + 5) (x + 11) (x + 14) M_13
  ((nI (0 + u_7 + u_12)), M_15)
theorem w_f_X7_writeMessage_2 (x : Nat) (p1 : Nat) (M : mm_M) : mm_fr2 [14, 16, 17, 18, 19, 20, 22, 21, 15, 34, 35, 33, 37, 40, 38, 39, 31, 2, 41, ((x + 5) + 3), 24, 23, 26, 25, ((x + 5) + 1), 28, 29, 30, ((x + 5) + 2), ((x + 5) + 4), x, ((x + 11) + 1), ((x + 14) + 1), (x + 11), (x + 14)] M (f_X7_writeMessage_2 x p1 M) := by
  unfold f_X7_writeMessage_2
  exact ((w_f_X10_split _ _ _ _).on (by simp) (mm_fr_w (by simp) ((w_f_X10_encryptAndHash _ _ _ _ _ _ _).m.on (by simp) ((w_f_X10_mixKey _ _ _).on (by simp) ((w_f_X4_multiply _ _ _).on (by simp) ((w_f_X10_encryptAndHash _ _ _ _ _ _ _).m.on (by simp) ((w_f_X4_publicKey _ _).on (by simp) (mm_fr_refl _ _)))))))).b
set_option maxHeartbeats 4000000 in
set_option maxRecDepth 100000 in
theorem c_X7_writeMessage_2 (l : Launch) (D : va_G) (b0 : Nat) (r : Nat → Nat) (M : mm_M) (x : Nat) (p1 : Nat) (hx : mm_ses x) (hp1 : p1 ≤ 900) (h0 : M.1 x 10 = nI 2) : mm_Mi l yX7_writeMessage cX7_writeMessage 5 .int 6 203 D b0 r [.ref (r (x)), .ref (r (1)), .int (nI (p1)), .ref (r (2))] M (fun v M' => (v, M') = f_X7_writeMessage_2 x p1 M) := by
  refine mm_enter (cc := cX7_writeMessage) (nL := 5) (ret := (some .int)) (by decide) (Nat.le_of_ble_eq_true rfl) ?_
  intro p e s m args below meth c C w ls hl
  have hl : lv_has ls 5 [(0, .ref (r (x))), (1, .ref (r (1))), (2, .int (nI (p1))), (3, .ref (r (2)))] := hl
  have hx49 := hx.2.1
  have hx16 := hx.1
  refine lv_iconst (v := 0) C.1 C.2.1 dX7_writeMessage_0 (by decide) ?_
  refine lv_istore (lv' := [(4, .int 0), (0, .ref (r (x))), (1, .ref (r (1))), (2, .int (nI (p1))), (3, .ref (r (2)))]) C.1 C.2.1 dX7_writeMessage_1 hl (by decide) rfl (fun ls hl => ?_)
  refine lv_aload_n C.1 C.2.1 dX7_writeMessage_3 rfl (lv_at hl 1 rfl) ?_
  refine m_get C w (k := x) (j := 10) (v := .int (M.1 x 10)) flX7_28 (by have := hx.1; omega) hx.2.2.1 (mm_v0 hx.2.2.2.2.2.2.2.2.2.2.2.2.2.2.2.2.2.1) dX7_writeMessage_4 ?_
  refine m_i (y := nI (2)) h0 ?_
  refine lv_iconst (v := 2) C.1 C.2.1 dX7_writeMessage_7 (by decide) ?_
  refine m_icmp_eq (tgt := 45) (a := 2) (b := 2) C (by omega) (by omega) dX7_writeMessage_8 (by decide) (fun _ => ?_) (fun h_1 => absurd h_1 (by decide))
  refine lv_aload_n C.1 C.2.1 dX7_writeMessage_45 rfl (lv_at hl 1 rfl) ?_
  refine m_get C w (k := x) (j := 10) (v := .int (M.1 x 10)) flX7_28 (by have := hx.1; omega) hx.2.2.1 (mm_v0 hx.2.2.2.2.2.2.2.2.2.2.2.2.2.2.2.2.2.1) dX7_writeMessage_46 ?_
  refine m_i (y := nI (2)) h0 ?_
  refine lv_iconst (v := 1) C.1 C.2.1 dX7_writeMessage_49 (by decide) ?_
  refine m_icmp_ne (tgt := 75) (a := 2) (b := 1) C (by omega) (by omega) dX7_writeMessage_50 (by decide) (fun _ => ?_) (fun h_2 => absurd h_2 (by decide))
  refine lv_aload_n C.1 C.2.1 dX7_writeMessage_75 rfl (lv_at hl 1 rfl) ?_
  refine m_get C w (k := x) (j := 10) (v := .int (M.1 x 10)) flX7_28 (by have := hx.1; omega) hx.2.2.1 (mm_v0 hx.2.2.2.2.2.2.2.2.2.2.2.2.2.2.2.2.2.1) dX7_writeMessage_76 ?_
  refine m_i (y := nI (2)) h0 ?_
  refine m_if_eq (tgt := 133) (a := 2) C (by omega) dX7_writeMessage_79 (by decide) (fun h_3 => absurd h_3 (by decide)) (fun _ => ?_)
  refine lv_iload C.1 C.2.1 dX7_writeMessage_82 (lv_at hl 0 rfl) ?_
  refine lv_aload_n C.1 C.2.1 dX7_writeMessage_84 rfl (lv_at hl 1 rfl) ?_
  refine m_get C w (k := x) (j := 1) (v := .ref (r (x + 5))) flX7_47 (by have := hx.1; omega) hx.2.2.1 (mm_v3 hx.2.2.2.2.2.2.2.2.1) dX7_writeMessage_85 ?_
  refine lv_aload_n C.1 C.2.1 dX7_writeMessage_88 rfl (lv_at hl 1 rfl) ?_
  refine m_get C w (k := x) (j := 0) (v := .ref (r (13))) flX7_41 (by have := hx.1; omega) hx.2.2.1 (mm_v3 hx.2.2.2.2.2.2.2.1) dX7_writeMessage_89 ?_
  refine lv_aload_n C.1 C.2.1 dX7_writeMessage_92 rfl (lv_at hl 1 rfl) ?_
  refine m_get C w (k := x) (j := 5) (v := .ref (r (x + 1))) flX7_9 (by have := hx.1; omega) hx.2.2.1 (mm_v3 hx.2.2.2.2.2.2.2.2.2.2.2.2.1) dX7_writeMessage_93 ?_
  refine m_cvr C w hl cvX7_86 (k := 13) (by decide) rfl (q := (RX4, TX4, 9)) rfl rfl (As := [.ref (r (x + 1))]) (rest := [.ref (r (x + 5)), .int 0]) (c_X4_publicKey l D b0 r M (x + 1) (by have := hx.1; omega) (hx.2.2.2.1 0 (by decide)) (by decide) (by omega)) rfl rfl (Nat.le_of_ble_eq_true rfl) ⟨Nat.le_of_ble_eq_true rfl, Nat.le_of_ble_eq_true rfl⟩ ⟨Nat.zero_le _, Nat.zero_le _⟩ dX7_writeMessage_96 (fun M_4 H locs eM_4 w => ?_)
  refine lv_iconst (v := 0) C.1 C.2.1 dX7_writeMessage_99 (by decide) ?_
  refine lv_bipush (v := 32) C.1 C.2.1 dX7_writeMessage_100 (by decide) ?_
  refine lv_aload_n C.1 C.2.1 dX7_writeMessage_102 rfl (lv_at hl 4 rfl) ?_
  refine lv_iload C.1 C.2.1 dX7_writeMessage_103 (lv_at hl 0 rfl) ?_
  refine m_cvi C w hl cvX7_100 (k := x + 5) (by have := hx.2.2.2.2.1.1; omega) hx.2.2.2.2.1.2.1 (q := (RX10, TX10, 5)) rfl rfl (As := [.ref (r (15)), .int 0, .int 32, .ref (r (2)), .int 0]) (rest := [.int 0]) (c_X10_encryptAndHash l D b0 r M_4 (x + 5) 15 0 32 2 0 hx.2.2.2.2.1 (by decide) rfl (by decide) (by omega) (by omega) (by decide) rfl (by decide) (by omega) (by omega)) rfl rfl (Nat.le_of_ble_eq_true rfl) ⟨Nat.le_of_ble_eq_true rfl, Nat.le_of_ble_eq_true rfl⟩ ⟨Nat.zero_le _, Nat.zero_le _⟩ dX7_writeMessage_105 (fun v_6 M_5 H locs e9 w => ?_)
  obtain ⟨ev_6, eM_5⟩ : v_6 = (f_X10_encryptAndHash (x + 5) 15 0 32 2 0 M_4).1 ∧ M_5 = (f_X10_encryptAndHash (x + 5) 15 0 32 2 0 M_4).2 := ⟨congrArg Prod.fst e9, congrArg Prod.snd e9⟩
  clear e9
  obtain ⟨u_7, eu_7⟩ : ∃ zz, zz = (if M_4.1 (x + 5 + 3) 3 = 0 then 32 else 32 + 16) := ⟨_, rfl⟩
  have hu_7 : u_7 ≤ 32 + 16 := by rw [eu_7]; split <;> omega
  refine m_i (y := nI (u_7)) (by rw [ev_6, eu_7]; exact r_X10_enc _ _ _ _ _ _ _) ?_
  refine lv_iadd C.1 C.2.1 dX7_writeMessage_108 ?_
  refine m_i (y := nI (0 + u_7)) (nI_add 0 u_7) ?_
  refine lv_istore (lv' := [(4, .int (nI (0 + u_7))), (0, .ref (r (x))), (1, .ref (r (1))), (2, .int (nI (p1))), (3, .ref (r (2)))]) C.1 C.2.1 dX7_writeMessage_109 hl (by decide) rfl (fun ls hl => ?_)
  refine lv_aload_n C.1 C.2.1 dX7_writeMessage_111 rfl (lv_at hl 1 rfl) ?_
  refine m_get C w (k := x) (j := 1) (v := .ref (r (x + 5))) flX7_47 (by have := hx.1; omega) hx.2.2.1 (mm_v3 hx.2.2.2.2.2.2.2.2.1) dX7_writeMessage_112 ?_
  refine lv_aload_n C.1 C.2.1 dX7_writeMessage_115 rfl (lv_at hl 1 rfl) ?_
  refine m_get C w (k := x) (j := 0) (v := .ref (r (13))) flX7_41 (by have := hx.1; omega) hx.2.2.1 (mm_v3 hx.2.2.2.2.2.2.2.1) dX7_writeMessage_116 ?_
  refine lv_aload_n C.1 C.2.1 dX7_writeMessage_119 rfl (lv_at hl 1 rfl) ?_
  refine m_get C w (k := x) (j := 5) (v := .ref (r (x + 1))) flX7_9 (by have := hx.1; omega) hx.2.2.1 (mm_v3 hx.2.2.2.2.2.2.2.2.2.2.2.2.1) dX7_writeMessage_120 ?_
  refine lv_aload_n C.1 C.2.1 dX7_writeMessage_123 rfl (lv_at hl 1 rfl) ?_
  refine m_get C w (k := x) (j := 8) (v := .ref (r (x + 4))) flX7_21 (by have := hx.1; omega) hx.2.2.1 (mm_v3 hx.2.2.2.2.2.2.2.2.2.2.2.2.2.2.2.1) dX7_writeMessage_124 ?_
  refine m_cvr C w hl cvX7_92 (k := 13) (by decide) rfl (q := (RX4, TX4, 9)) rfl rfl (As := [.ref (r (x + 1)), .ref (r (x + 4))]) (rest := [.ref (r (x + 5))]) (c_X4_multiply l D b0 r M_5 (x + 1) (x + 4) (by have := hx.1; omega) (hx.2.2.2.1 0 (by decide)) (by decide) (by omega) (by have := hx.1; omega) (hx.2.2.2.1 3 (by decide)) (by decide) (by omega)) rfl rfl (Nat.le_of_ble_eq_true rfl) ⟨Nat.le_of_ble_eq_true rfl, Nat.le_of_ble_eq_true rfl⟩ ⟨Nat.zero_le _, Nat.zero_le _⟩ dX7_writeMessage_127 (fun M_8 H locs eM_8 w => ?_)
  refine m_cvv C w hl cvX7_96 (k := x + 5) (by have := hx.2.2.2.2.1.1; omega) hx.2.2.2.2.1.2.1 (q := (RX10, TX10, 5)) rfl rfl (As := [.ref (r (15))]) (rest := []) (c_X10_mixKey l D b0 r M_8 (x + 5) 15 hx.2.2.2.2.1 (by decide) rfl (by decide) (by omega) (by omega)) rfl rfl (Nat.le_of_ble_eq_true rfl) ⟨Nat.le_of_ble_eq_true rfl, Nat.le_of_ble_eq_true rfl⟩ ⟨Nat.zero_le _, Nat.zero_le _⟩ dX7_writeMessage_130 (fun M_9 H locs eM_9 w => ?_)
  refine lv_iload C.1 C.2.1 dX7_writeMessage_133 (lv_at hl 0 rfl) ?_
  refine lv_aload_n C.1 C.2.1 dX7_writeMessage_135 rfl (lv_at hl 1 rfl) ?_
  refine m_get C w (k := x) (j := 1) (v := .ref (r (x + 5))) flX7_47 (by have := hx.1; omega) hx.2.2.1 (mm_v3 hx.2.2.2.2.2.2.2.2.1) dX7_writeMessage_136 ?_
  refine lv_aload_n C.1 C.2.1 dX7_writeMessage_139 rfl (lv_at hl 2 rfl) ?_
  refine lv_iconst (v := 0) C.1 C.2.1 dX7_writeMessage_140 (by decide) ?_
  refine lv_iload_n C.1 C.2.1 dX7_writeMessage_141 rfl (lv_at hl 3 rfl) ?_
  refine lv_aload_n C.1 C.2.1 dX7_writeMessage_142 rfl (lv_at hl 4 rfl) ?_
  refine lv_iload C.1 C.2.1 dX7_writeMessage_143 (lv_at hl 0 rfl) ?_
  refine m_cvi C w hl cvX7_100 (k := x + 5) (by have := hx.2.2.2.2.1.1; omega) hx.2.2.2.2.1.2.1 (q := (RX10, TX10, 5)) rfl rfl (As := [.ref (r (1)), .int 0, .int (nI (p1)), .ref (r (2)), .int (nI (0 + u_7))]) (rest := [.int (nI (0 + u_7))]) (c_X10_encryptAndHash l D b0 r M_9 (x + 5) 1 0 p1 2 (0 + u_7) hx.2.2.2.2.1 (by decide) rfl (by decide) (by omega) (by omega) (by decide) rfl (by decide) (by omega) (by omega)) rfl rfl (Nat.le_of_ble_eq_true rfl) ⟨Nat.le_of_ble_eq_true rfl, Nat.le_of_ble_eq_true rfl⟩ ⟨Nat.zero_le _, Nat.zero_le _⟩ dX7_writeMessage_145 (fun v_11 M_10 H locs e9 w => ?_)
  obtain ⟨ev_11, eM_10⟩ : v_11 = (f_X10_encryptAndHash (x + 5) 1 0 p1 2 (0 + u_7) M_9).1 ∧ M_10 = (f_X10_encryptAndHash (x + 5) 1 0 p1 2 (0 + u_7) M_9).2 := ⟨congrArg Prod.fst e9, congrArg Prod.snd e9⟩
  clear e9
  obtain ⟨u_12, eu_12⟩ : ∃ zz, zz = (if M_9.1 (x + 5 + 3) 3 = 0 then p1 else p1 + 16) := ⟨_, rfl⟩
  have hu_12 : u_12 ≤ p1 + 16 := by rw [eu_12]; split <;> omega
  refine m_i (y := nI (u_12)) (by rw [ev_11, eu_12]; exact r_X10_enc _ _ _ _ _ _ _) ?_
  refine lv_iadd C.1 C.2.1 dX7_writeMessage_148 ?_
  refine m_i (y := nI (0 + u_7 + u_12)) (nI_add (0 + u_7) u_12) ?_
  refine lv_istore (lv' := [(4, .int (nI (0 + u_7 + u_12))), (0, .ref (r (x))), (1, .ref (r (1))), (2, .int (nI (p1))), (3, .ref (r (2)))]) C.1 C.2.1 dX7_writeMessage_149 hl (by decide) rfl (fun ls hl => ?_)
  refine lv_aload_n C.1 C.2.1 dX7_writeMessage_151 rfl (lv_at hl 1 rfl) ?_
  refine lv_dup C.1 C.2.1 dX7_writeMessage_152 rfl ?_
  refine m_get C w (k := x) (j := 10) (v := .int (M_10.1 x 10)) flX7_28 (by have := hx.1; omega) hx.2.2.1 (mm_v0 hx.2.2.2.2.2.2.2.2.2.2.2.2.2.2.2.2.2.1) dX7_writeMessage_153 ?_
  refine m_i (y := nI (2)) (by have hf : mm_fr [14, 16, 17, 18, 19, 20, 22, 21, 15, 34, 35, 33, 37, 40, 38, 39, 31, 2, 41, ((x + 5) + 3), 24, 23, 26, 25, ((x + 5) + 1), 28, 29, 30, ((x + 5) + 2), ((x + 5) + 4)] M M_10 := (by subst eM_4 ev_6 eM_5 eu_7 eM_8 eM_9 ev_11 eM_10 eu_12; exact ((w_f_X10_encryptAndHash _ _ _ _ _ _ _).m.on (by simp) ((w_f_X10_mixKey _ _ _).on (by simp) ((w_f_X4_multiply _ _ _).on (by simp) ((w_f_X10_encryptAndHash _ _ _ _ _ _ _).m.on (by simp) ((w_f_X4_publicKey _ _).on (by simp) (mm_fr_refl _ _))))))); rw [(hf x (by first | (simp; done) | (simp; omega))).1]; exact h0) ?_
  refine lv_iconst (v := 1) C.1 C.2.1 dX7_writeMessage_156 (by decide) ?_
  refine lv_iadd C.1 C.2.1 dX7_writeMessage_157 ?_
  refine m_i (y := nI (3)) (nI_add 2 1) ?_
  refine m_puti C w (k := x) (j := 10) (x := (3 : Int32)) rfl flX7_28w (by have := hx.1; omega) hx.2.2.1 hx.2.2.2.2.2.2.2.2.2.2.2.2.2.2.2.2.2.1 dX7_writeMessage_158 (fun H locs w => ?_)
  obtain ⟨M_13, eM_13⟩ : ∃ zz, zz = mm_w M_10 x 10 (3 : Int32) := ⟨_, rfl⟩
  rw [← eM_13] at w
  refine lv_aload_n C.1 C.2.1 dX7_writeMessage_161 rfl (lv_at hl 1 rfl) ?_
  refine m_get C w (k := x) (j := 10) (v := .int (M_13.1 x 10)) flX7_28 (by have := hx.1; omega) hx.2.2.1 (mm_v0 hx.2.2.2.2.2.2.2.2.2.2.2.2.2.2.2.2.2.1) dX7_writeMessage_162 ?_
  refine m_i (y := nI (3)) (by rw [eM_13]; simp [mm_w]; try rfl) ?_
  refine lv_iconst (v := 3) C.1 C.2.1 dX7_writeMessage_165 (by decide) ?_
  refine m_icmp_ne (tgt := 184) (a := 3) (b := 3) C (by omega) (by omega) dX7_writeMessage_166 (by decide) (fun h_14 => absurd h_14 (by decide)) (fun _ => ?_)
  refine lv_aload_n C.1 C.2.1 dX7_writeMessage_169 rfl (lv_at hl 1 rfl) ?_
  refine m_get C w (k := x) (j := 1) (v := .ref (r (x + 5))) flX7_47 (by have := hx.1; omega) hx.2.2.1 (mm_v3 hx.2.2.2.2.2.2.2.2.1) dX7_writeMessage_170 ?_
  refine lv_aload_n C.1 C.2.1 dX7_writeMessage_173 rfl (lv_at hl 1 rfl) ?_
  refine m_get C w (k := x) (j := 3) (v := .ref (r (x + 11))) flX7_63 (by have := hx.1; omega) hx.2.2.1 (mm_v3 hx.2.2.2.2.2.2.2.2.2.2.1) dX7_writeMessage_174 ?_
  refine lv_aload_n C.1 C.2.1 dX7_writeMessage_177 rfl (lv_at hl 1 rfl) ?_
  refine m_get C w (k := x) (j := 4) (v := .ref (r (x + 14))) flX7_67 (by have := hx.1; omega) hx.2.2.1 (mm_v3 hx.2.2.2.2.2.2.2.2.2.2.2.1) dX7_writeMessage_178 ?_
  refine m_cvv C w hl cvX7_104 (k := x + 5) (by have := hx.2.2.2.2.1.1; omega) hx.2.2.2.2.1.2.1 (q := (RX10, TX10, 5)) rfl rfl (As := [.ref (r (x + 11)), .ref (r (x + 14))]) (rest := []) (c_X10_split l D b0 r M_13 (x + 5) (x + 11) (x + 14) hx.2.2.2.2.1 hx.2.2.2.2.2.1 hx.2.2.2.2.2.2.1) rfl rfl (Nat.le_of_ble_eq_true rfl) ⟨Nat.le_of_ble_eq_true rfl, Nat.le_of_ble_eq_true rfl⟩ ⟨Nat.zero_le _, Nat.zero_le _⟩ dX7_writeMessage_181 (fun M_15 H locs eM_15 w => ?_)
  refine lv_iload C.1 C.2.1 dX7_writeMessage_184 (lv_at hl 0 rfl) ?_
  exact m_iret C w (by subst eM_4 ev_6 eM_5 eu_7 eM_8 eM_9 ev_11 eM_10 eu_12 eM_13 eM_15; exact Eq.symm (rfl)) dX7_writeMessage_186

theorem r_X10_mixKey (y k1 : Nat) (M : mm_M) : (f_X10_mixKey y k1 M).1 (y + 3) 3 = 1 := by
  unfold f_X10_mixKey f_X3_useNewKey
  simp [mm_w, mm_wl]

def f_X7_readMessage_0_B1 (x : Nat) (M_10 : mm_M) (v_11 : Int32) : Int32 × mm_M :=
  if ¬ (v_11) = (-1 : Int32) then (let M_13 := mm_w M_10 x 10 (1 : Int32)
  ((v_11), M_13)) else (let v_16 := (f_X7_refuse x M_10).1
  let M_15 := (f_X7_refuse x M_10).2
  ((v_16), M_15))
theorem w_f_X7_readMessage_0_B1 (x : Nat) (M_10 : mm_M) (v_11 : Int32) : mm_fr2 [x, x + 6, x + 7, x + 9, ((x + 5) + 3)] M_10 (f_X7_readMessage_0_B1 x M_10 v_11) := by
  unfold f_X7_readMessage_0_B1
  exact (mm_fr_ite2 (fun _ => (mm_fr_w (by simp) (mm_fr_refl _ _)).b) (fun _ => ((w_f_X7_refuse _ _).m.on (by simp) (mm_fr_refl _ _)).b))
def f_X7_readMessage_0 (x : Nat) (p1 : Nat) (M : mm_M) : Int32 × mm_M :=
  if 32 ≤ p1 then (let M_4 := f_X10_copyFrom 43 (x + 5) M
  let M_6 := mm_cp M_4 1 0 (x + 4) 0 32
  let M_7 := f_X10_mixHash (x + 5) 1 0 32 M_6
  let v_11 := (f_X10_decryptAndHash (x + 5) 1 32 (p1 - 32) 2 0 M_7).1
  let M_10 := (f_X10_decryptAndHash (x + 5) 1 32 (p1 - 32) 2 0 M_7).2
  f_X7_readMessage_0_B1 x M_10 v_11) else (let M_17 := mm_w M x 11 ((M.1 x 11) + (1 : Int32))
  ((-1 : Int32), M_17))
theorem w_f_X7_readMessage_0 (x : Nat) (p1 : Nat) (M : mm_M) : mm_fr2 [43 + 1, 43 + 2, 43 + 4, (43 + 3), x + 4, 24, 23, 26, 25, ((x + 5) + 1), 34, 35, 33, 37, 40, 38, 39, 31, 41, 2, ((x + 5) + 3), x, x + 6, x + 7, x + 9] M (f_X7_readMessage_0 x p1 M) := by
  unfold f_X7_readMessage_0
  exact (mm_fr_ite2 (fun _ => ((w_f_X7_readMessage_0_B1 _ _ _).on (by simp) ((w_f_X10_decryptAndHash _ _ _ _ _ _ _).m.on (by simp) ((w_f_X10_mixHash _ _ _ _ _).on (by simp) (mm_fr_cp (by simp) ((w_f_X10_copyFrom _ _ _).on (by simp) (mm_fr_refl _ _))))))) (fun _ => (mm_fr_w (by simp) (mm_fr_refl _ _)).b))
set_option maxHeartbeats 4000000 in
set_option maxRecDepth 100000 in
theorem c_X7_readMessage_0 (l : Launch) (D : va_G) (b0 : Nat) (r : Nat → Nat) (M : mm_M) (x : Nat) (p1 : Nat) (hx : mm_ses x) (hp1 : p1 ≤ 1000) (h0 : M.1 x 10 = nI 0) : mm_Mi l yX7_readMessage cX7_readMessage 6 .int 6 182 D b0 r [.ref (r (x)), .ref (r (1)), .int (nI (p1)), .ref (r (2))] M (fun v M' => (v, M') = f_X7_readMessage_0 x p1 M) := by
  refine mm_enter (cc := cX7_readMessage) (nL := 6) (ret := (some .int)) (by decide) (Nat.le_of_ble_eq_true rfl) ?_
  intro p e s m args below meth c C w ls hl
  have hl : lv_has ls 6 [(0, .ref (r (x))), (1, .ref (r (1))), (2, .int (nI (p1))), (3, .ref (r (2)))] := hl
  have hx49 := hx.2.1
  have hx16 := hx.1
  refine lv_aload_n C.1 C.2.1 dX7_readMessage_0 rfl (lv_at hl 0 rfl) ?_
  refine m_get C w (k := x) (j := 10) (v := .int (M.1 x 10)) flX7_28 (by have := hx.1; omega) hx.2.2.1 (mm_v0 hx.2.2.2.2.2.2.2.2.2.2.2.2.2.2.2.2.2.1) dX7_readMessage_1 ?_
  refine m_i (y := nI (0)) h0 ?_
  refine lv_if_lt (tgt := 27) C.1 C.2.1 dX7_readMessage_4 (by decide) (fun h_1 => absurd h_1 (nI_pos (by decide))) (fun _ => ?_)
  refine lv_aload_n C.1 C.2.1 dX7_readMessage_7 rfl (lv_at hl 0 rfl) ?_
  refine m_get C w (k := x) (j := 10) (v := .int (M.1 x 10)) flX7_28 (by have := hx.1; omega) hx.2.2.1 (mm_v0 hx.2.2.2.2.2.2.2.2.2.2.2.2.2.2.2.2.2.1) dX7_readMessage_8 ?_
  refine m_i (y := nI (0)) h0 ?_
  refine lv_iconst (v := 3) C.1 C.2.1 dX7_readMessage_11 (by decide) ?_
  refine m_icmp_ge (tgt := 27) (a := 0) (b := 3) C (by omega) (by omega) dX7_readMessage_12 (by decide) (fun h_2 => absurd h_2 (by decide)) (fun _ => ?_)
  refine lv_iload_n C.1 C.2.1 dX7_readMessage_15 rfl (lv_at hl 2 rfl) ?_
  refine m_gets C w C.2.2.2.2.2.2.2.1.2.2.2.2.2.2.2.1 fsX7_108 dX7_readMessage_16 ?_
  refine lv_aload_n C.1 C.2.1 dX7_readMessage_19 rfl (lv_at hl 0 rfl) ?_
  refine m_get C w (k := x) (j := 10) (v := .int (M.1 x 10)) flX7_28 (by have := hx.1; omega) hx.2.2.1 (mm_v0 hx.2.2.2.2.2.2.2.2.2.2.2.2.2.2.2.2.2.1) dX7_readMessage_20 ?_
  refine m_i (y := nI (0)) h0 ?_
  refine m_iald C w (k := 180) (i := 0) (n := 3) (wr := false) (by decide) rfl (by omega) (by decide) dX7_readMessage_23 ?_
  refine m_i (y := nI (32)) (by rw [w.1.tab (k := 180) (by decide) rfl (by decide)]; rfl) ?_
  refine m_icmp_ge (tgt := 39) (a := p1) (b := 32) C (by omega) (by omega) dX7_readMessage_24 (by decide) (fun h_3 => ?_) (fun h_3 => ?_)
  · refine lv_aload_n C.1 C.2.1 dX7_readMessage_39 rfl (lv_at hl 0 rfl) ?_
    refine m_get C w (k := x) (j := 2) (v := .ref (r (43))) flX7_51 (by have := hx.1; omega) hx.2.2.1 (mm_v3 hx.2.2.2.2.2.2.2.2.2.1) dX7_readMessage_40 ?_
    refine lv_aload_n C.1 C.2.1 dX7_readMessage_43 rfl (lv_at hl 0 rfl) ?_
    refine m_get C w (k := x) (j := 1) (v := .ref (r (x + 5))) flX7_47 (by have := hx.1; omega) hx.2.2.1 (mm_v3 hx.2.2.2.2.2.2.2.2.1) dX7_readMessage_44 ?_
    refine m_cvv C w hl cvX7_112 (k := 43) (by decide) rfl (q := (RX10, TX10, 5)) rfl rfl (As := [.ref (r (x + 5))]) (rest := []) (c_X10_copyFrom l D b0 r M 43 (x + 5) mm_spare hx.2.2.2.2.1) rfl rfl (Nat.le_of_ble_eq_true rfl) ⟨Nat.le_of_ble_eq_true rfl, Nat.le_of_ble_eq_true rfl⟩ ⟨Nat.zero_le _, Nat.zero_le _⟩ dX7_readMessage_47 (fun M_4 H locs eM_4 w => ?_)
    refine lv_iconst (v := 0) C.1 C.2.1 dX7_readMessage_50 (by decide) ?_
    refine lv_istore (lv' := [(4, .int 0), (0, .ref (r (x))), (1, .ref (r (1))), (2, .int (nI (p1))), (3, .ref (r (2)))]) C.1 C.2.1 dX7_readMessage_51 hl (by decide) rfl (fun ls hl => ?_)
    refine lv_aload_n C.1 C.2.1 dX7_readMessage_53 rfl (lv_at hl 1 rfl) ?_
    refine m_get C w (k := x) (j := 10) (v := .int (M_4.1 x 10)) flX7_28 (by have := hx.1; omega) hx.2.2.1 (mm_v0 hx.2.2.2.2.2.2.2.2.2.2.2.2.2.2.2.2.2.1) dX7_readMessage_54 ?_
    refine m_i (y := nI (0)) (by have hf : mm_fr [43 + 1, 43 + 2, 43 + 4, (43 + 3)] M M_4 := (by subst eM_4; exact ((w_f_X10_copyFrom _ _ _).on (by simp) (mm_fr_refl _ _))); rw [(hf x (by first | (simp; done) | (simp; omega))).1]; exact h0) ?_
    refine lv_iconst (v := 2) C.1 C.2.1 dX7_readMessage_57 (by decide) ?_
    refine m_icmp_eq (tgt := 88) (a := 0) (b := 2) C (by omega) (by omega) dX7_readMessage_58 (by decide) (fun h_5 => absurd h_5 (by decide)) (fun _ => ?_)
    refine lv_aload_n C.1 C.2.1 dX7_readMessage_61 rfl (lv_at hl 2 rfl) ?_
    refine lv_iconst (v := 0) C.1 C.2.1 dX7_readMessage_62 (by decide) ?_
    refine lv_aload_n C.1 C.2.1 dX7_readMessage_63 rfl (lv_at hl 1 rfl) ?_
    refine m_get C w (k := x) (j := 8) (v := .ref (r (x + 4))) flX7_21 (by have := hx.1; omega) hx.2.2.1 (mm_v3 hx.2.2.2.2.2.2.2.2.2.2.2.2.2.2.2.1) dX7_readMessage_64 ?_
    refine lv_iconst (v := 0) C.1 C.2.1 dX7_readMessage_67 (by decide) ?_
    refine lv_bipush (v := 32) C.1 C.2.1 dX7_readMessage_68 (by decide) ?_
    refine m_cpb C w hl (k := 1) (k2 := x + 4) (sp := 0) (dp := 0) (n := 32) (by decide) rfl (by decide) (by have := hx.1; omega) (hx.2.2.2.1 3 (by decide)) (by decide) acX7_70 (by omega) (by omega) (Nat.le_of_ble_eq_true rfl) (Nat.le_of_ble_eq_true rfl) dX7_readMessage_70 (fun H locs w => ?_)
    obtain ⟨M_6, eM_6⟩ : ∃ zz, zz = mm_cp M_4 1 0 (x + 4) 0 32 := ⟨_, rfl⟩
    rw [← eM_6] at w
    refine lv_aload_n C.1 C.2.1 dX7_readMessage_73 rfl (lv_at hl 1 rfl) ?_
    refine m_get C w (k := x) (j := 1) (v := .ref (r (x + 5))) flX7_47 (by have := hx.1; omega) hx.2.2.1 (mm_v3 hx.2.2.2.2.2.2.2.2.1) dX7_readMessage_74 ?_
    refine lv_aload_n C.1 C.2.1 dX7_readMessage_77 rfl (lv_at hl 2 rfl) ?_
    refine lv_iconst (v := 0) C.1 C.2.1 dX7_readMessage_78 (by decide) ?_
    refine lv_bipush (v := 32) C.1 C.2.1 dX7_readMessage_79 (by decide) ?_
    refine m_cvv C w hl cvX7_82 (k := x + 5) (by have := hx.2.2.2.2.1.1; omega) hx.2.2.2.2.1.2.1 (q := (RX10, TX10, 5)) rfl rfl (As := [.ref (r (1)), .int 0, .int 32]) (rest := []) (c_X10_mixHash l D b0 r M_6 (x + 5) 1 0 32 hx.2.2.2.2.1 (by decide) rfl (by decide) (by omega) (by omega)) rfl rfl (Nat.le_of_ble_eq_true rfl) ⟨Nat.le_of_ble_eq_true rfl, Nat.le_of_ble_eq_true rfl⟩ ⟨Nat.zero_le _, Nat.zero_le _⟩ dX7_readMessage_81 (fun M_7 H locs eM_7 w => ?_)
    refine lv_bipush (v := 32) C.1 C.2.1 dX7_readMessage_84 (by decide) ?_
    refine lv_istore (lv' := [(4, .int 32), (0, .ref (r (x))), (1, .ref (r (1))), (2, .int (nI (p1))), (3, .ref (r (2)))]) C.1 C.2.1 dX7_readMessage_86 hl (by decide) rfl (fun ls hl => ?_)
    refine lv_aload_n C.1 C.2.1 dX7_readMessage_88 rfl (lv_at hl 1 rfl) ?_
    refine m_get C w (k := x) (j := 10) (v := .int (M_7.1 x 10)) flX7_28 (by have := hx.1; omega) hx.2.2.1 (mm_v0 hx.2.2.2.2.2.2.2.2.2.2.2.2.2.2.2.2.2.1) dX7_readMessage_89 ?_
    refine m_i (y := nI (0)) (by have hf : mm_fr [43 + 1, 43 + 2, 43 + 4, (43 + 3), x + 4, 24, 23, 26, 25, ((x + 5) + 1)] M M_7 := (by subst eM_4 eM_6 eM_7; exact ((w_f_X10_mixHash _ _ _ _ _).on (by simp) (mm_fr_cp (by simp) ((w_f_X10_copyFrom _ _ _).on (by simp) (mm_fr_refl _ _))))); rw [(hf x (by first | (simp; done) | (simp; omega))).1]; exact h0) ?_
    refine lv_iconst (v := 1) C.1 C.2.1 dX7_readMessage_92 (by decide) ?_
    refine m_icmp_ne (tgt := 118) (a := 0) (b := 1) C (by omega) (by omega) dX7_readMessage_93 (by decide) (fun _ => ?_) (fun h_8 => absurd h_8 (by decide))
    refine lv_aload_n C.1 C.2.1 dX7_readMessage_118 rfl (lv_at hl 1 rfl) ?_
    refine m_get C w (k := x) (j := 10) (v := .int (M_7.1 x 10)) flX7_28 (by have := hx.1; omega) hx.2.2.1 (mm_v0 hx.2.2.2.2.2.2.2.2.2.2.2.2.2.2.2.2.2.1) dX7_readMessage_119 ?_
    refine m_i (y := nI (0)) (by have hf : mm_fr [43 + 1, 43 + 2, 43 + 4, (43 + 3), x + 4, 24, 23, 26, 25, ((x + 5) + 1)] M M_7 := (by subst eM_4 eM_6 eM_7; exact ((w_f_X10_mixHash _ _ _ _ _).on (by simp) (mm_fr_cp (by simp) ((w_f_X10_copyFrom _ _ _).on (by simp) (mm_fr_refl _ _))))); rw [(hf x (by first | (simp; done) | (simp; omega))).1]; exact h0) ?_
    refine m_if_eq (tgt := 176) (a := 0) C (by omega) dX7_readMessage_122 (by decide) (fun _ => ?_) (fun h_9 => absurd h_9 (by decide))
    refine lv_aload_n C.1 C.2.1 dX7_readMessage_176 rfl (lv_at hl 1 rfl) ?_
    refine m_get C w (k := x) (j := 1) (v := .ref (r (x + 5))) flX7_47 (by have := hx.1; omega) hx.2.2.1 (mm_v3 hx.2.2.2.2.2.2.2.2.1) dX7_readMessage_177 ?_
    refine lv_aload_n C.1 C.2.1 dX7_readMessage_180 rfl (lv_at hl 2 rfl) ?_
    refine lv_iload C.1 C.2.1 dX7_readMessage_181 (lv_at hl 0 rfl) ?_
    refine lv_iload_n C.1 C.2.1 dX7_readMessage_183 rfl (lv_at hl 3 rfl) ?_
    refine lv_iload C.1 C.2.1 dX7_readMessage_184 (lv_at hl 0 rfl) ?_
    refine lv_isub C.1 C.2.1 dX7_readMessage_186 ?_
    refine m_i (y := nI (p1 - 32)) (pk_sub (a := p1) (b := 32) (by omega)) ?_
    refine lv_aload_n C.1 C.2.1 dX7_readMessage_187 rfl (lv_at hl 4 rfl) ?_
    refine lv_iconst (v := 0) C.1 C.2.1 dX7_readMessage_188 (by decide) ?_
    refine m_cvi C w hl cvX7_116 (k := x + 5) (by have := hx.2.2.2.2.1.1; omega) hx.2.2.2.2.1.2.1 (q := (RX10, TX10, 5)) rfl rfl (As := [.ref (r (1)), .int 32, .int (nI (p1 - 32)), .ref (r (2)), .int 0]) (rest := []) (c_X10_decryptAndHash l D b0 r M_7 (x + 5) 1 32 (p1 - 32) 2 0 hx.2.2.2.2.1 (by decide) rfl (by decide) (by omega) (by omega) (by decide) rfl (by decide) ⟨fun _ => by omega, fun _ => by omega⟩ (by omega)) rfl rfl (Nat.le_of_ble_eq_true rfl) ⟨Nat.le_of_ble_eq_true rfl, Nat.le_of_ble_eq_true rfl⟩ ⟨Nat.zero_le _, Nat.zero_le _⟩ dX7_readMessage_189 (fun v_11 M_10 H locs e9 w => ?_)
    obtain ⟨ev_11, eM_10⟩ : v_11 = (f_X10_decryptAndHash (x + 5) 1 32 (p1 - 32) 2 0 M_7).1 ∧ M_10 = (f_X10_decryptAndHash (x + 5) 1 32 (p1 - 32) 2 0 M_7).2 := ⟨congrArg Prod.fst e9, congrArg Prod.snd e9⟩
    clear e9
    refine lv_istore (lv' := [(5, .int (v_11)), (4, .int 32), (0, .ref (r (x))), (1, .ref (r (1))), (2, .int (nI (p1))), (3, .ref (r (2)))]) C.1 C.2.1 dX7_readMessage_192 hl (by decide) rfl (fun ls hl => ?_)
    refine lv_iload C.1 C.2.1 dX7_readMessage_194 (lv_at hl 0 rfl) ?_
    refine lv_iconst (v := (-1)) C.1 C.2.1 dX7_readMessage_196 (by decide) ?_
    refine lv_icmp_ne (tgt := 205) C.1 C.2.1 dX7_readMessage_197 (by decide) (fun h_12 => ?_) (fun h_12 => ?_)
    · refine lv_aload_n C.1 C.2.1 dX7_readMessage_205 rfl (lv_at hl 2 rfl) ?_
      refine lv_dup C.1 C.2.1 dX7_readMessage_206 rfl ?_
      refine m_get C w (k := x) (j := 10) (v := .int (M_10.1 x 10)) flX7_28 (by have := hx.1; omega) hx.2.2.1 (mm_v0 hx.2.2.2.2.2.2.2.2.2.2.2.2.2.2.2.2.2.1) dX7_readMessage_207 ?_
      refine m_i (y := nI (0)) (by have hf : mm_fr [43 + 1, 43 + 2, 43 + 4, (43 + 3), x + 4, 24, 23, 26, 25, ((x + 5) + 1), 34, 35, 33, 37, 40, 38, 39, 31, 41, 2, ((x + 5) + 3)] M M_10 := (by subst eM_4 eM_6 eM_7 ev_11 eM_10; exact ((w_f_X10_decryptAndHash _ _ _ _ _ _ _).m.on (by simp) ((w_f_X10_mixHash _ _ _ _ _).on (by simp) (mm_fr_cp (by simp) ((w_f_X10_copyFrom _ _ _).on (by simp) (mm_fr_refl _ _)))))); rw [(hf x (by first | (simp; done) | (simp; omega))).1]; exact h0) ?_
      refine lv_iconst (v := 1) C.1 C.2.1 dX7_readMessage_210 (by decide) ?_
      refine lv_iadd C.1 C.2.1 dX7_readMessage_211 ?_
      refine m_i (y := nI (1)) (nI_add 0 1) ?_
      refine m_puti C w (k := x) (j := 10) (x := (1 : Int32)) rfl flX7_28w (by have := hx.1; omega) hx.2.2.1 hx.2.2.2.2.2.2.2.2.2.2.2.2.2.2.2.2.2.1 dX7_readMessage_212 (fun H locs w => ?_)
      obtain ⟨M_13, eM_13⟩ : ∃ zz, zz = mm_w M_10 x 10 (1 : Int32) := ⟨_, rfl⟩
      rw [← eM_13] at w
      refine lv_aload_n C.1 C.2.1 dX7_readMessage_215 rfl (lv_at hl 2 rfl) ?_
      refine m_get C w (k := x) (j := 10) (v := .int (M_13.1 x 10)) flX7_28 (by have := hx.1; omega) hx.2.2.1 (mm_v0 hx.2.2.2.2.2.2.2.2.2.2.2.2.2.2.2.2.2.1) dX7_readMessage_216 ?_
      refine m_i (y := nI (1)) (by rw [eM_13]; simp [mm_w]; try rfl) ?_
      refine lv_iconst (v := 3) C.1 C.2.1 dX7_readMessage_219 (by decide) ?_
      refine m_icmp_ne (tgt := 238) (a := 1) (b := 3) C (by omega) (by omega) dX7_readMessage_220 (by decide) (fun _ => ?_) (fun h_14 => absurd h_14 (by decide))
      refine lv_iload C.1 C.2.1 dX7_readMessage_238 (lv_at hl 0 rfl) ?_
      exact m_iret C w (by subst eM_4 eM_6 eM_7 ev_11 eM_10 eM_13; exact Eq.symm (((if_pos h_3).trans ((if_pos h_12).trans rfl)))) dX7_readMessage_240
    · refine lv_aload_n C.1 C.2.1 dX7_readMessage_200 rfl (lv_at hl 2 rfl) ?_
      refine m_cvi C w hl cvX7_119 (k := x) (by have := hx.1; omega) hx.2.2.1 (q := (RX7, TX7, 12)) rfl rfl (As := []) (rest := []) (c_X7_refuse l D b0 r M_10 x hx) rfl rfl (Nat.le_of_ble_eq_true rfl) ⟨Nat.le_of_ble_eq_true rfl, Nat.le_of_ble_eq_true rfl⟩ ⟨Nat.zero_le _, Nat.zero_le _⟩ dX7_readMessage_201 (fun v_16 M_15 H locs e9 w => ?_)
      obtain ⟨ev_16, eM_15⟩ : v_16 = (f_X7_refuse x M_10).1 ∧ M_15 = (f_X7_refuse x M_10).2 := ⟨congrArg Prod.fst e9, congrArg Prod.snd e9⟩
      clear e9
      exact m_iret C w (by subst eM_4 eM_6 eM_7 ev_11 eM_10 ev_16 eM_15; exact Eq.symm (((if_pos h_3).trans ((if_neg (fun q => q h_12)).trans rfl)))) dX7_readMessage_204
  · refine lv_aload_n C.1 C.2.1 dX7_readMessage_27 rfl (lv_at hl 0 rfl) ?_
    refine lv_dup C.1 C.2.1 dX7_readMessage_28 rfl ?_
    refine m_get C w (k := x) (j := 11) (v := .int (M.1 x 11)) flX7_32 (by have := hx.1; omega) hx.2.2.1 (mm_v0 hx.2.2.2.2.2.2.2.2.2.2.2.2.2.2.2.2.2.2) dX7_readMessage_29 ?_
    refine lv_iconst (v := 1) C.1 C.2.1 dX7_readMessage_32 (by decide) ?_
    refine lv_iadd C.1 C.2.1 dX7_readMessage_33 ?_
    refine m_puti C w (k := x) (j := 11) (x := ((M.1 x 11) + (1 : Int32))) rfl flX7_32w (by have := hx.1; omega) hx.2.2.1 hx.2.2.2.2.2.2.2.2.2.2.2.2.2.2.2.2.2.2 dX7_readMessage_34 (fun H locs w => ?_)
    obtain ⟨M_17, eM_17⟩ : ∃ zz, zz = mm_w M x 11 ((M.1 x 11) + (1 : Int32)) := ⟨_, rfl⟩
    rw [← eM_17] at w
    refine lv_iconst (v := (-1)) C.1 C.2.1 dX7_readMessage_37 (by decide) ?_
    exact m_iret C w (by subst eM_17; exact Eq.symm (((if_neg (Nat.not_le.mpr h_3)).trans rfl))) dX7_readMessage_38

def f_X7_readMessage_1_B1 (x : Nat) (M_17 : mm_M) (v_18 : Int32) : Int32 × mm_M :=
  if ¬ (v_18) = (-1 : Int32) then (let M_20 := mm_w M_17 x 10 (2 : Int32)
  ((v_18), M_20)) else (let v_23 := (f_X7_refuse x M_17).1
  let M_22 := (f_X7_refuse x M_17).2
  ((v_23), M_22))
theorem w_f_X7_readMessage_1_B1 (x : Nat) (M_17 : mm_M) (v_18 : Int32) : mm_fr2 [x, x + 6, x + 7, x + 9, ((x + 5) + 3)] M_17 (f_X7_readMessage_1_B1 x M_17 v_18) := by
  unfold f_X7_readMessage_1_B1
  exact (mm_fr_ite2 (fun _ => (mm_fr_w (by simp) (mm_fr_refl _ _)).b) (fun _ => ((w_f_X7_refuse _ _).m.on (by simp) (mm_fr_refl _ _)).b))
def f_X7_readMessage_1_B2 (x : Nat) (p1 : Nat) (M_12 : mm_M) (v_13 : Int32) : Int32 × mm_M :=
  if ¬ (v_13) = (-1 : Int32) then (let M_15 := f_X4_multiply (x + 2) (x + 3) M_12
  let M_16 := f_X10_mixKey (x + 5) 15 M_15
  let v_18 := (f_X10_decryptAndHash (x + 5) 1 80 (p1 - 80) 2 0 M_16).1
  let M_17 := (f_X10_decryptAndHash (x + 5) 1 80 (p1 - 80) 2 0 M_16).2
  f_X7_readMessage_1_B1 x M_17 v_18) else (let v_25 := (f_X7_refuse x M_12).1
  let M_24 := (f_X7_refuse x M_12).2
  ((v_25), M_24))
theorem w_f_X7_readMessage_1_B2 (x : Nat) (p1 : Nat) (M_12 : mm_M) (v_13 : Int32) : mm_fr2 [14, 16, 17, 18, 19, 20, 22, 21, 15, 24, 23, 26, 25, 28, 29, 30, ((x + 5) + 2), ((x + 5) + 4), ((x + 5) + 3), 34, 35, 33, 37, 40, 38, 39, 31, 41, 2, ((x + 5) + 1), x, x + 6, x + 7, x + 9] M_12 (f_X7_readMessage_1_B2 x p1 M_12 v_13) := by
  unfold f_X7_readMessage_1_B2
  exact (mm_fr_ite2 (fun _ => ((w_f_X7_readMessage_1_B1 _ _ _).on (by simp) ((w_f_X10_decryptAndHash _ _ _ _ _ _ _).m.on (by simp) ((w_f_X10_mixKey _ _ _).on (by simp) ((w_f_X4_multiply _ _ _).on (by simp) (mm_fr_refl _ _)))))) (fun _ => ((w_f_X7_refuse _ _).m.on (by simp) (mm_fr_refl _ _)).b))
def f_X7_readMessage_1 (x : Nat) (p1 : Nat) (M : mm_M) : Int32 × mm_M :=
  if 96 ≤ p1 then (let M_4 := f_X10_copyFrom 43 (x + 5) M
  let M_6 := mm_cp M_4 1 0 (x + 4) 0 32
  let M_7 := f_X10_mixHash (x + 5) 1 0 32 M_6
  let M_9 := f_X4_multiply (x + 2) (x + 4) M_7
  let M_10 := f_X10_mixKey (x + 5) 15 M_9
  let v_13 := (f_X10_decryptAndHash (x + 5) 1 32 48 (x + 3) 0 M_10).1
  let M_12 := (f_X10_decryptAndHash (x + 5) 1 32 48 (x + 3) 0 M_10).2
  f_X7_readMessage_1_B2 x p1 M_12 v_13) else (let M_26 := mm_w M x 11 ((M.1 x 11) + (1 : Int32))
  ((-1 : Int32), M_26))
theorem w_f_X7_readMessage_1 (x : Nat) (p1 : Nat) (M : mm_M) : mm_fr2 [43 + 1, 43 + 2, 43 + 4, (43 + 3), x + 4, 24, 23, 26, 25, ((x + 5) + 1), 14, 16, 17, 18, 19, 20, 22, 21, 15, 28, 29, 30, ((x + 5) + 2), ((x + 5) + 4), ((x + 5) + 3), 34, 35, 33, 37, 40, 38, 39, 31, 41, (x + 3), 2, x, x + 6, x + 7, x + 9] M (f_X7_readMessage_1 x p1 M) := by
  unfold f_X7_readMessage_1
  exact (mm_fr_ite2 (fun _ => ((w_f_X7_readMessage_1_B2 _ _ _ _).on (by simp) ((w_f_X10_decryptAndHash _ _ _ _ _ _ _).m.on (by simp) ((w_f_X10_mixKey _ _ _).on (by simp) ((w_f_X4_multiply _ _ _).on (by simp) ((w_f_X10_mixHash _ _ _ _ _).on (by simp) (mm_fr_cp (by simp) ((w_f_X10_copyFrom _ _ _).on (by simp) (mm_fr_refl _ _))))))))) (fun _ => (mm_fr_w (by simp) (mm_fr_refl _ _)).b))
set_option maxHeartbeats 4000000 in
set_option maxRecDepth 100000 in
theorem c_X7_readMessage_1 (l : Launch) (D : va_G) (b0 : Nat) (r : Nat → Nat) (M : mm_M) (x : Nat) (p1 : Nat) (hx : mm_ses x) (hp1 : p1 ≤ 1000) (h0 : M.1 x 10 = nI 1) : mm_Mi l yX7_readMessage cX7_readMessage 6 .int 6 182 D b0 r [.ref (r (x)), .ref (r (1)), .int (nI (p1)), .ref (r (2))] M (fun v M' => (v, M') = f_X7_readMessage_1 x p1 M) := by
  refine mm_enter (cc := cX7_readMessage) (nL := 6) (ret := (some .int)) (by decide) (Nat.le_of_ble_eq_true rfl) ?_
  intro p e s m args below meth c C w ls hl
  have hl : lv_has ls 6 [(0, .ref (r (x))), (1, .ref (r (1))), (2, .int (nI (p1))), (3, .ref (r (2)))] := hl
  have hx49 := hx.2.1
  have hx16 := hx.1
  refine lv_aload_n C.1 C.2.1 dX7_readMessage_0 rfl (lv_at hl 0 rfl) ?_
  refine m_get C w (k := x) (j := 10) (v := .int (M.1 x 10)) flX7_28 (by have := hx.1; omega) hx.2.2.1 (mm_v0 hx.2.2.2.2.2.2.2.2.2.2.2.2.2.2.2.2.2.1) dX7_readMessage_1 ?_
  refine m_i (y := nI (1)) h0 ?_
  refine lv_if_lt (tgt := 27) C.1 C.2.1 dX7_readMessage_4 (by decide) (fun h_1 => absurd h_1 (nI_pos (by decide))) (fun _ => ?_)
  refine lv_aload_n C.1 C.2.1 dX7_readMessage_7 rfl (lv_at hl 0 rfl) ?_
  refine m_get C w (k := x) (j := 10) (v := .int (M.1 x 10)) flX7_28 (by have := hx.1; omega) hx.2.2.1 (mm_v0 hx.2.2.2.2.2.2.2.2.2.2.2.2.2.2.2.2.2.1) dX7_readMessage_8 ?_
  refine m_i (y := nI (1)) h0 ?_
  refine lv_iconst (v := 3) C.1 C.2.1 dX7_readMessage_11 (by decide) ?_
  refine m_icmp_ge (tgt := 27) (a := 1) (b := 3) C (by omega) (by omega) dX7_readMessage_12 (by decide) (fun h_2 => absurd h_2 (by decide)) (fun _ => ?_)
  refine lv_iload_n C.1 C.2.1 dX7_readMessage_15 rfl (lv_at hl 2 rfl) ?_
  refine m_gets C w C.2.2.2.2.2.2.2.1.2.2.2.2.2.2.2.1 fsX7_108 dX7_readMessage_16 ?_
  refine lv_aload_n C.1 C.2.1 dX7_readMessage_19 rfl (lv_at hl 0 rfl) ?_
  refine m_get C w (k := x) (j := 10) (v := .int (M.1 x 10)) flX7_28 (by have := hx.1; omega) hx.2.2.1 (mm_v0 hx.2.2.2.2.2.2.2.2.2.2.2.2.2.2.2.2.2.1) dX7_readMessage_20 ?_
  refine m_i (y := nI (1)) h0 ?_
  refine m_iald C w (k := 180) (i := 1) (n := 3) (wr := false) (by decide) rfl (by omega) (by decide) dX7_readMessage_23 ?_
  refine m_i (y := nI (96)) (by rw [w.1.tab (k := 180) (by decide) rfl (by decide)]; rfl) ?_
  refine m_icmp_ge (tgt := 39) (a := p1) (b := 96) C (by omega) (by omega) dX7_readMessage_24 (by decide) (fun h_3 => ?_) (fun h_3 => ?_)
  · refine lv_aload_n C.1 C.2.1 dX7_readMessage_39 rfl (lv_at hl 0 rfl) ?_
    refine m_get C w (k := x) (j := 2) (v := .ref (r (43))) flX7_51 (by have := hx.1; omega) hx.2.2.1 (mm_v3 hx.2.2.2.2.2.2.2.2.2.1) dX7_readMessage_40 ?_
    refine lv_aload_n C.1 C.2.1 dX7_readMessage_43 rfl (lv_at hl 0 rfl) ?_
    refine m_get C w (k := x) (j := 1) (v := .ref (r (x + 5))) flX7_47 (by have := hx.1; omega) hx.2.2.1 (mm_v3 hx.2.2.2.2.2.2.2.2.1) dX7_readMessage_44 ?_
    refine m_cvv C w hl cvX7_112 (k := 43) (by decide) rfl (q := (RX10, TX10, 5)) rfl rfl (As := [.ref (r (x + 5))]) (rest := []) (c_X10_copyFrom l D b0 r M 43 (x + 5) mm_spare hx.2.2.2.2.1) rfl rfl (Nat.le_of_ble_eq_true rfl) ⟨Nat.le_of_ble_eq_true rfl, Nat.le_of_ble_eq_true rfl⟩ ⟨Nat.zero_le _, Nat.zero_le _⟩ dX7_readMessage_47 (fun M_4 H locs eM_4 w => ?_)
    refine lv_iconst (v := 0) C.1 C.2.1 dX7_readMessage_50 (by decide) ?_
    refine lv_istore (lv' := [(4, .int 0), (0, .ref (r (x))), (1, .ref (r (1))), (2, .int (nI (p1))), (3, .ref (r (2)))]) C.1 C.2.1 dX7_readMessage_51 hl (by decide) rfl (fun ls hl => ?_)
    refine lv_aload_n C.1 C.2.1 dX7_readMessage_53 rfl (lv_at hl 1 rfl) ?_
    refine m_get C w (k := x) (j := 10) (v := .int (M_4.1 x 10)) flX7_28 (by have := hx.1; omega) hx.2.2.1 (mm_v0 hx.2.2.2.2.2.2.2.2.2.2.2.2.2.2.2.2.2.1) dX7_readMessage_54 ?_
    refine m_i (y := nI (1)) (by have hf : mm_fr [43 + 1, 43 + 2, 43 + 4, (43 + 3)] M M_4 := (by subst eM_4; exact ((w_f_X10_copyFrom _ _ _).on (by simp) (mm_fr_refl _ _))); rw [(hf x (by first | (simp; done) | (simp; omega))).1]; exact h0) ?_
    refine lv_iconst (v := 2) C.1 C.2.1 dX7_readMessage_57 (by decide) ?_
    refine m_icmp_eq (tgt := 88) (a := 1) (b := 2) C (by omega) (by omega) dX7_readMessage_58 (by decide) (fun h_5 => absurd h_5 (by decide)) (fun _ => ?_)
    refine lv_aload_n C.1 C.2.1 dX7_readMessage_61 rfl (lv_at hl 2 rfl) ?_
    refine lv_iconst (v := 0) C.1 C.2.1 dX7_readMessage_62 (by decide) ?_
    refine lv_aload_n C.1 C.2.1 dX7_readMessage_63 rfl (lv_at hl 1 rfl) ?_
    refine m_get C w (k := x) (j := 8) (v := .ref (r (x + 4))) flX7_21 (by have := hx.1; omega) hx.2.2.1 (mm_v3 hx.2.2.2.2.2.2.2.2.2.2.2.2.2.2.2.1) dX7_readMessage_64 ?_
    refine lv_iconst (v := 0) C.1 C.2.1 dX7_readMessage_67 (by decide) ?_
    refine lv_bipush (v := 32) C.1 C.2.1 dX7_readMessage_68 (by decide) ?_
    refine m_cpb C w hl (k := 1) (k2 := x + 4) (sp := 0) (dp := 0) (n := 32) (by decide) rfl (by decide) (by have := hx.1; omega) (hx.2.2.2.1 3 (by decide)) (by decide) acX7_70 (by omega) (by omega) (Nat.le_of_ble_eq_true rfl) (Nat.le_of_ble_eq_true rfl) dX7_readMessage_70 (fun H locs w => ?_)
    obtain ⟨M_6, eM_6⟩ : ∃ zz, zz = mm_cp M_4 1 0 (x + 4) 0 32 := ⟨_, rfl⟩
    rw [← eM_6] at w
    refine lv_aload_n C.1 C.2.1 dX7_readMessage_73 rfl (lv_at hl 1 rfl) ?_
    refine m_get C w (k := x) (j := 1) (v := .ref (r (x + 5))) flX7_47 (by have := hx.1; omega) hx.2.2.1 (mm_v3 hx.2.2.2.2.2.2.2.2.1) dX7_readMessage_74 ?_
    refine lv_aload_n C.1 C.2.1 dX7_readMessage_77 rfl (lv_at hl 2 rfl) ?_
    refine lv_iconst (v := 0) C.1 C.2.1 dX7_readMessage_78 (by decide) ?_
    refine lv_bipush (v := 32) C.1 C.2.1 dX7_readMessage_79 (by decide) ?_
    refine m_cvv C w hl cvX7_82 (k := x + 5) (by have := hx.2.2.2.2.1.1; omega) hx.2.2.2.2.1.2.1 (q := (RX10, TX10, 5)) rfl rfl (As := [.ref (r (1)), .int 0, .int 32]) (rest := []) (c_X10_mixHash l D b0 r M_6 (x + 5) 1 0 32 hx.2.2.2.2.1 (by decide) rfl (by decide) (by omega) (by omega)) rfl rfl (Nat.le_of_ble_eq_true rfl) ⟨Nat.le_of_ble_eq_true rfl, Nat.le_of_ble_eq_true rfl⟩ ⟨Nat.zero_le _, Nat.zero_le _⟩ dX7_readMessage_81 (fun M_7 H locs eM_7 w => ?_)
    refine lv_bipush (v := 32) C.1 C.2.1 dX7_readMessage_84 (by decide) ?_
    refine lv_istore (lv' := [(4, .int 32), (0, .ref (r (x))), (1, .ref (r (1))), (2, .int (nI (p1))), (3, .ref (r (2)))]) C.1 C.2.1 dX7_readMessage_86 hl (by decide) rfl (fun ls hl => ?_)
    refine lv_aload_n C.1 C.2.1 dX7_readMessage_88 rfl (lv_at hl 1 rfl) ?_
    refine m_get C w (k := x) (j := 10) (v := .int (M_7.1 x 10)) flX7_28 (by have := hx.1; omega) hx.2.2.1 (mm_v0 hx.2.2.2.2.2.2.2.2.2.2.2.2.2.2.2.2.2.1) dX7_readMessage_89 ?_
    refine m_i (y := nI (1)) (by have hf : mm_fr [43 + 1, 43 + 2, 43 + 4, (43 + 3), x + 4, 24, 23, 26, 25, ((x + 5) + 1)] M M_7 := (by subst eM_4 eM_6 eM_7; exact ((w_f_X10_mixHash _ _ _ _ _).on (by simp) (mm_fr_cp (by simp) ((w_f_X10_copyFrom _ _ _).on (by simp) (mm_fr_refl _ _))))); rw [(hf x (by first | (simp; done) | (simp; omega))).1]; exact h0) ?_
    refine lv_iconst (v := 1) C.1 C.2.1 dX7_readMessage_92 (by decide) ?_
    refine m_icmp_ne (tgt := 118) (a := 1) (b := 1) C (by omega) (by omega) dX7_readMessage_93 (by decide) (fun h_8 => absurd h_8 (by decide)) (fun _ => ?_)
    refine lv_aload_n C.1 C.2.1 dX7_readMessage_96 rfl (lv_at hl 1 rfl) ?_
    refine m_get C w (k := x) (j := 1) (v := .ref (r (x + 5))) flX7_47 (by have := hx.1; omega) hx.2.2.1 (mm_v3 hx.2.2.2.2.2.2.2.2.1) dX7_readMessage_97 ?_
    refine lv_aload_n C.1 C.2.1 dX7_readMessage_100 rfl (lv_at hl 1 rfl) ?_
    refine m_get C w (k := x) (j := 0) (v := .ref (r (13))) flX7_41 (by have := hx.1; omega) hx.2.2.1 (mm_v3 hx.2.2.2.2.2.2.2.1) dX7_readMessage_101 ?_
    refine lv_aload_n C.1 C.2.1 dX7_readMessage_104 rfl (lv_at hl 1 rfl) ?_
    refine m_get C w (k := x) (j := 6) (v := .ref (r (x + 2))) flX7_15 (by have := hx.1; omega) hx.2.2.1 (mm_v3 hx.2.2.2.2.2.2.2.2.2.2.2.2.2.1) dX7_readMessage_105 ?_
    refine lv_aload_n C.1 C.2.1 dX7_readMessage_108 rfl (lv_at hl 1 rfl) ?_
    refine m_get C w (k := x) (j := 8) (v := .ref (r (x + 4))) flX7_21 (by have := hx.1; omega) hx.2.2.1 (mm_v3 hx.2.2.2.2.2.2.2.2.2.2.2.2.2.2.2.1) dX7_readMessage_109 ?_
    refine m_cvr C w hl cvX7_92 (k := 13) (by decide) rfl (q := (RX4, TX4, 9)) rfl rfl (As := [.ref (r (x + 2)), .ref (r (x + 4))]) (rest := [.ref (r (x + 5))]) (c_X4_multiply l D b0 r M_7 (x + 2) (x + 4) (by have := hx.1; omega) (hx.2.2.2.1 1 (by decide)) (by decide) (by omega) (by have := hx.1; omega) (hx.2.2.2.1 3 (by decide)) (by decide) (by omega)) rfl rfl (Nat.le_of_ble_eq_true rfl) ⟨Nat.le_of_ble_eq_true rfl, Nat.le_of_ble_eq_true rfl⟩ ⟨Nat.zero_le _, Nat.zero_le _⟩ dX7_readMessage_112 (fun M_9 H locs eM_9 w => ?_)
    refine m_cvv C w hl cvX7_96 (k := x + 5) (by have := hx.2.2.2.2.1.1; omega) hx.2.2.2.2.1.2.1 (q := (RX10, TX10, 5)) rfl rfl (As := [.ref (r (15))]) (rest := []) (c_X10_mixKey l D b0 r M_9 (x + 5) 15 hx.2.2.2.2.1 (by decide) rfl (by decide) (by omega) (by omega)) rfl rfl (Nat.le_of_ble_eq_true rfl) ⟨Nat.le_of_ble_eq_true rfl, Nat.le_of_ble_eq_true rfl⟩ ⟨Nat.zero_le _, Nat.zero_le _⟩ dX7_readMessage_115 (fun M_10 H locs eM_10 w => ?_)
    refine lv_aload_n C.1 C.2.1 dX7_readMessage_118 rfl (lv_at hl 1 rfl) ?_
    refine m_get C w (k := x) (j := 10) (v := .int (M_10.1 x 10)) flX7_28 (by have := hx.1; omega) hx.2.2.1 (mm_v0 hx.2.2.2.2.2.2.2.2.2.2.2.2.2.2.2.2.2.1) dX7_readMessage_119 ?_
    refine m_i (y := nI (1)) (by have hf : mm_fr [43 + 1, 43 + 2, 43 + 4, (43 + 3), x + 4, 24, 23, 26, 25, ((x + 5) + 1), 14, 16, 17, 18, 19, 20, 22, 21, 15, 28, 29, 30, ((x + 5) + 2), ((x + 5) + 4), ((x + 5) + 3)] M M_10 := (by subst eM_4 eM_6 eM_7 eM_9 eM_10; exact ((w_f_X10_mixKey _ _ _).on (by simp) ((w_f_X4_multiply _ _ _).on (by simp) ((w_f_X10_mixHash _ _ _ _ _).on (by simp) (mm_fr_cp (by simp) ((w_f_X10_copyFrom _ _ _).on (by simp) (mm_fr_refl _ _))))))); rw [(hf x (by first | (simp; done) | (simp; omega))).1]; exact h0) ?_
    refine m_if_eq (tgt := 176) (a := 1) C (by omega) dX7_readMessage_122 (by decide) (fun h_11 => absurd h_11 (by decide)) (fun _ => ?_)
    refine lv_aload_n C.1 C.2.1 dX7_readMessage_125 rfl (lv_at hl 1 rfl) ?_
    refine m_get C w (k := x) (j := 1) (v := .ref (r (x + 5))) flX7_47 (by have := hx.1; omega) hx.2.2.1 (mm_v3 hx.2.2.2.2.2.2.2.2.1) dX7_readMessage_126 ?_
    refine lv_aload_n C.1 C.2.1 dX7_readMessage_129 rfl (lv_at hl 2 rfl) ?_
    refine lv_iload C.1 C.2.1 dX7_readMessage_130 (lv_at hl 0 rfl) ?_
    refine lv_bipush (v := 48) C.1 C.2.1 dX7_readMessage_132 (by decide) ?_
    refine lv_aload_n C.1 C.2.1 dX7_readMessage_134 rfl (lv_at hl 1 rfl) ?_
    refine m_get C w (k := x) (j := 7) (v := .ref (r (x + 3))) flX7_18 (by have := hx.1; omega) hx.2.2.1 (mm_v3 hx.2.2.2.2.2.2.2.2.2.2.2.2.2.2.1) dX7_readMessage_135 ?_
    refine lv_iconst (v := 0) C.1 C.2.1 dX7_readMessage_138 (by decide) ?_
    refine m_cvi C w hl cvX7_116 (k := x + 5) (by have := hx.2.2.2.2.1.1; omega) hx.2.2.2.2.1.2.1 (q := (RX10, TX10, 5)) rfl rfl (As := [.ref (r (1)), .int 32, .int 48, .ref (r (x + 3)), .int 0]) (rest := []) (c_X10_decryptAndHash l D b0 r M_10 (x + 5) 1 32 48 (x + 3) 0 hx.2.2.2.2.1 (by decide) rfl (by decide) (by omega) (by omega) (by have := hx.1; omega) (hx.2.2.2.1 2 (by decide)) (by decide) ⟨fun q => absurd q (by rw [eM_10, r_X10_mixKey]; decide), fun _ => by omega⟩ (by omega)) rfl rfl (Nat.le_of_ble_eq_true rfl) ⟨Nat.le_of_ble_eq_true rfl, Nat.le_of_ble_eq_true rfl⟩ ⟨Nat.zero_le _, Nat.zero_le _⟩ dX7_readMessage_139 (fun v_13 M_12 H locs e9 w => ?_)
    obtain ⟨ev_13, eM_12⟩ : v_13 = (f_X10_decryptAndHash (x + 5) 1 32 48 (x + 3) 0 M_10).1 ∧ M_12 = (f_X10_decryptAndHash (x + 5) 1 32 48 (x + 3) 0 M_10).2 := ⟨congrArg Prod.fst e9, congrArg Prod.snd e9⟩
    clear e9
    refine lv_iconst (v := (-1)) C.1 C.2.1 dX7_readMessage_142 (by decide) ?_
    refine lv_icmp_ne (tgt := 151) C.1 C.2.1 dX7_readMessage_143 (by decide) (fun h_14 => ?_) (fun h_14 => ?_)
    · refine lv_aload_n C.1 C.2.1 dX7_readMessage_151 rfl (lv_at hl 1 rfl) ?_
      refine m_get C w (k := x) (j := 1) (v := .ref (r (x + 5))) flX7_47 (by have := hx.1; omega) hx.2.2.1 (mm_v3 hx.2.2.2.2.2.2.2.2.1) dX7_readMessage_152 ?_
      refine lv_aload_n C.1 C.2.1 dX7_readMessage_155 rfl (lv_at hl 1 rfl) ?_
      refine m_get C w (k := x) (j := 0) (v := .ref (r (13))) flX7_41 (by have := hx.1; omega) hx.2.2.1 (mm_v3 hx.2.2.2.2.2.2.2.1) dX7_readMessage_156 ?_
      refine lv_aload_n C.1 C.2.1 dX7_readMessage_159 rfl (lv_at hl 1 rfl) ?_
      refine m_get C w (k := x) (j := 6) (v := .ref (r (x + 2))) flX7_15 (by have := hx.1; omega) hx.2.2.1 (mm_v3 hx.2.2.2.2.2.2.2.2.2.2.2.2.2.1) dX7_readMessage_160 ?_
      refine lv_aload_n C.1 C.2.1 dX7_readMessage_163 rfl (lv_at hl 1 rfl) ?_
      refine m_get C w (k := x) (j := 7) (v := .ref (r (x + 3))) flX7_18 (by have := hx.1; omega) hx.2.2.1 (mm_v3 hx.2.2.2.2.2.2.2.2.2.2.2.2.2.2.1) dX7_readMessage_164 ?_
      refine m_cvr C w hl cvX7_92 (k := 13) (by decide) rfl (q := (RX4, TX4, 9)) rfl rfl (As := [.ref (r (x + 2)), .ref (r (x + 3))]) (rest := [.ref (r (x + 5))]) (c_X4_multiply l D b0 r M_12 (x + 2) (x + 3) (by have := hx.1; omega) (hx.2.2.2.1 1 (by decide)) (by decide) (by omega) (by have := hx.1; omega) (hx.2.2.2.1 2 (by decide)) (by decide) (by omega)) rfl rfl (Nat.le_of_ble_eq_true rfl) ⟨Nat.le_of_ble_eq_true rfl, Nat.le_of_ble_eq_true rfl⟩ ⟨Nat.zero_le _, Nat.zero_le _⟩ dX7_readMessage_167 (fun M_15 H locs eM_15 w => ?_)
      refine m_cvv C w hl cvX7_96 (k := x + 5) (by have := hx.2.2.2.2.1.1; omega) hx.2.2.2.2.1.2.1 (q := (RX10, TX10, 5)) rfl rfl (As := [.ref (r (15))]) (rest := []) (c_X10_mixKey l D b0 r M_15 (x + 5) 15 hx.2.2.2.2.1 (by decide) rfl (by decide) (by omega) (by omega)) rfl rfl (Nat.le_of_ble_eq_true rfl) ⟨Nat.le_of_ble_eq_true rfl, Nat.le_of_ble_eq_true rfl⟩ ⟨Nat.zero_le _, Nat.zero_le _⟩ dX7_readMessage_170 (fun M_16 H locs eM_16 w => ?_)
      refine lv_iinc (v := (80 : Int32)) (lv' := [(4, .int 80), (0, .ref (r (x))), (1, .ref (r (1))), (2, .int (nI (p1))), (3, .ref (r (2)))]) C.1 C.2.1 dX7_readMessage_173 hl (k := 0) rfl (nI_add 32 48) (by decide) rfl (fun ls hl => ?_)
      refine lv_aload_n C.1 C.2.1 dX7_readMessage_176 rfl (lv_at hl 1 rfl) ?_
      refine m_get C w (k := x) (j := 1) (v := .ref (r (x + 5))) flX7_47 (by have := hx.1; omega) hx.2.2.1 (mm_v3 hx.2.2.2.2.2.2.2.2.1) dX7_readMessage_177 ?_
      refine lv_aload_n C.1 C.2.1 dX7_readMessage_180 rfl (lv_at hl 2 rfl) ?_
      refine lv_iload C.1 C.2.1 dX7_readMessage_181 (lv_at hl 0 rfl) ?_
      refine lv_iload_n C.1 C.2.1 dX7_readMessage_183 rfl (lv_at hl 3 rfl) ?_
      refine lv_iload C.1 C.2.1 dX7_readMessage_184 (lv_at hl 0 rfl) ?_
      refine lv_isub C.1 C.2.1 dX7_readMessage_186 ?_
      refine m_i (y := nI (p1 - 80)) (pk_sub (a := p1) (b := 80) (by omega)) ?_
      refine lv_aload_n C.1 C.2.1 dX7_readMessage_187 rfl (lv_at hl 4 rfl) ?_
      refine lv_iconst (v := 0) C.1 C.2.1 dX7_readMessage_188 (by decide) ?_
      refine m_cvi C w hl cvX7_116 (k := x + 5) (by have := hx.2.2.2.2.1.1; omega) hx.2.2.2.2.1.2.1 (q := (RX10, TX10, 5)) rfl rfl (As := [.ref (r (1)), .int 80, .int (nI (p1 - 80)), .ref (r (2)), .int 0]) (rest := []) (c_X10_decryptAndHash l D b0 r M_16 (x + 5) 1 80 (p1 - 80) 2 0 hx.2.2.2.2.1 (by decide) rfl (by decide) (by omega) (by omega) (by decide) rfl (by decide) ⟨fun _ => by omega, fun _ => by omega⟩ (by omega)) rfl rfl (Nat.le_of_ble_eq_true rfl) ⟨Nat.le_of_ble_eq_true rfl, Nat.le_of_ble_eq_true rfl⟩ ⟨Nat.zero_le _, Nat.zero_le _⟩ dX7_readMessage_189 (fun v_18 M_17 H locs e9 w => ?_)
      obtain ⟨ev_18, eM_17⟩ : v_18 = (f_X10_decryptAndHash (x + 5) 1 80 (p1 - 80) 2 0 M_16).1 ∧ M_17 = (f_X10_decryptAndHash (x + 5) 1 80 (p1 - 80) 2 0 M_16).2 := ⟨congrArg Prod.fst e9, congrArg Prod.snd e9⟩
      clear e9
      refine lv_istore (lv' := [(5, .int (v_18)), (4, .int 80), (0, .ref (r (x))), (1, .ref (r (1))), (2, .int (nI (p1))), (3, .ref (r (2)))]) C.1 C.2.1 dX7_readMessage_192 hl (by decide) rfl (fun ls hl => ?_)
      refine lv_iload C.1 C.2.1 dX7_readMessage_194 (lv_at hl 0 rfl) ?_
      refine lv_iconst (v := (-1)) C.1 C.2.1 dX7_readMessage_196 (by decide) ?_
      refine lv_icmp_ne (tgt := 205) C.1 C.2.1 dX7_readMessage_197 (by decide) (fun h_19 => ?_) (fun h_19 => ?_)
      · refine lv_aload_n C.1 C.2.1 dX7_readMessage_205 rfl (lv_at hl 2 rfl) ?_
        refine lv_dup C.1 C.2.1 dX7_readMessage_206 rfl ?_
        refine m_get C w (k := x) (j := 10) (v := .int (M_17.1 x 10)) flX7_28 (by have := hx.1; omega) hx.2.2.1 (mm_v0 hx.2.2.2.2.2.2.2.2.2.2.2.2.2.2.2.2.2.1) dX7_readMessage_207 ?_
        refine m_i (y := nI (1)) (by have hf : mm_fr [43 + 1, 43 + 2, 43 + 4, (43 + 3), x + 4, 24, 23, 26, 25, ((x + 5) + 1), 14, 16, 17, 18, 19, 20, 22, 21, 15, 28, 29, 30, ((x + 5) + 2), ((x + 5) + 4), ((x + 5) + 3), 34, 35, 33, 37, 40, 38, 39, 31, 41, (x + 3), 2] M M_17 := (by subst eM_4 eM_6 eM_7 eM_9 eM_10 ev_13 eM_12 eM_15 eM_16 ev_18 eM_17; exact ((w_f_X10_decryptAndHash _ _ _ _ _ _ _).m.on (by simp) ((w_f_X10_mixKey _ _ _).on (by simp) ((w_f_X4_multiply _ _ _).on (by simp) ((w_f_X10_decryptAndHash _ _ _ _ _ _ _).m.on (by simp) ((w_f_X10_mixKey _ _ _).on (by simp) ((w_f_X4_multiply _ _ _).on (by simp) ((w_f_X10_mixHash _ _ _ _ _).on (by simp) (mm_fr_cp (by simp) ((w_f_X10_copyFrom _ _ _).on (by simp) (mm_fr_refl _ _))))))))))); rw [(hf x (by first | (simp; done) | (simp; omega))).1]; exact h0) ?_
        refine lv_iconst (v := 1) C.1 C.2.1 dX7_readMessage_210 (by decide) ?_
        refine lv_iadd C.1 C.2.1 dX7_readMessage_211 ?_
        refine m_i (y := nI (2)) (nI_add 1 1) ?_
        refine m_puti C w (k := x) (j := 10) (x := (2 : Int32)) rfl flX7_28w (by have := hx.1; omega) hx.2.2.1 hx.2.2.2.2.2.2.2.2.2.2.2.2.2.2.2.2.2.1 dX7_readMessage_212 (fun H locs w => ?_)
        obtain ⟨M_20, eM_20⟩ : ∃ zz, zz = mm_w M_17 x 10 (2 : Int32) := ⟨_, rfl⟩
        rw [← eM_20] at w
        refine lv_aload_n C.1 C.2.1 dX7_readMessage_215 rfl (lv_at hl 2 rfl) ?_
        refine m_get C w (k := x) (j := 10) (v := .int (M_20.1 x 10)) flX7_28 (by have := hx.1; omega) hx.2.2.1 (mm_v0 hx.2.2.2.2.2.2.2.2.2.2.2.2.2.2.2.2.2.1) dX7_readMessage_216 ?_
        refine m_i (y := nI (2)) (by rw [eM_20]; simp [mm_w]; try rfl) ?_
        refine lv_iconst (v := 3) C.1 C.2.1 dX7_readMessage_219 (by decide) ?_
        refine m_icmp_ne (tgt := 238) (a := 2) (b := 3) C (by omega) (by omega) dX7_readMessage_220 (by decide) (fun _ => ?_) (fun h_21 => absurd h_21 (by decide))
        refine lv_iload C.1 C.2.1 dX7_readMessage_238 (lv_at hl 0 rfl) ?_
        exact m_iret C w (by subst eM_4 eM_6 eM_7 eM_9 eM_10 ev_13 eM_12 eM_15 eM_16 ev_18 eM_17 eM_20; exact Eq.symm (((if_pos h_3).trans ((if_pos h_14).trans ((if_pos h_19).trans rfl))))) dX7_readMessage_240
      · refine lv_aload_n C.1 C.2.1 dX7_readMessage_200 rfl (lv_at hl 2 rfl) ?_
        refine m_cvi C w hl cvX7_119 (k := x) (by have := hx.1; omega) hx.2.2.1 (q := (RX7, TX7, 12)) rfl rfl (As := []) (rest := []) (c_X7_refuse l D b0 r M_17 x hx) rfl rfl (Nat.le_of_ble_eq_true rfl) ⟨Nat.le_of_ble_eq_true rfl, Nat.le_of_ble_eq_true rfl⟩ ⟨Nat.zero_le _, Nat.zero_le _⟩ dX7_readMessage_201 (fun v_23 M_22 H locs e9 w => ?_)
        obtain ⟨ev_23, eM_22⟩ : v_23 = (f_X7_refuse x M_17).1 ∧ M_22 = (f_X7_refuse x M_17).2 := ⟨congrArg Prod.fst e9, congrArg Prod.snd e9⟩
        clear e9
        exact m_iret C w (by subst eM_4 eM_6 eM_7 eM_9 eM_10 ev_13 eM_12 eM_15 eM_16 ev_18 eM_17 ev_23 eM_22; exact Eq.symm (((if_pos h_3).trans ((if_pos h_14).trans ((if_neg (fun q => q h_19)).trans rfl))))) dX7_readMessage_204
    · refine lv_aload_n C.1 C.2.1 dX7_readMessage_146 rfl (lv_at hl 1 rfl) ?_
      refine m_cvi C w hl cvX7_119 (k := x) (by have := hx.1; omega) hx.2.2.1 (q := (RX7, TX7, 12)) rfl rfl (As := []) (rest := []) (c_X7_refuse l D b0 r M_12 x hx) rfl rfl (Nat.le_of_ble_eq_true rfl) ⟨Nat.le_of_ble_eq_true rfl, Nat.le_of_ble_eq_true rfl⟩ ⟨Nat.zero_le _, Nat.zero_le _⟩ dX7_readMessage_147 (fun v_25 M_24 H locs e9 w => ?_)
      obtain ⟨ev_25, eM_24⟩ : v_25 = (f_X7_refuse x M_12).1 ∧ M_24 = (f_X7_refuse x M_12).2 := ⟨congrArg Prod.fst e9, congrArg Prod.snd e9⟩
      clear e9
      exact m_iret C w (by subst eM_4 eM_6 eM_7 eM_9 eM_10 ev_13 eM_12 ev_25 eM_24; exact Eq.symm (((if_pos h_3).trans ((if_neg (fun q => q h_14)).trans rfl)))) dX7_readMessage_150
  · refine lv_aload_n C.1 C.2.1 dX7_readMessage_27 rfl (lv_at hl 0 rfl) ?_
    refine lv_dup C.1 C.2.1 dX7_readMessage_28 rfl ?_
    refine m_get C w (k := x) (j := 11) (v := .int (M.1 x 11)) flX7_32 (by have := hx.1; omega) hx.2.2.1 (mm_v0 hx.2.2.2.2.2.2.2.2.2.2.2.2.2.2.2.2.2.2) dX7_readMessage_29 ?_
    refine lv_iconst (v := 1) C.1 C.2.1 dX7_readMessage_32 (by decide) ?_
    refine lv_iadd C.1 C.2.1 dX7_readMessage_33 ?_
    refine m_puti C w (k := x) (j := 11) (x := ((M.1 x 11) + (1 : Int32))) rfl flX7_32w (by have := hx.1; omega) hx.2.2.1 hx.2.2.2.2.2.2.2.2.2.2.2.2.2.2.2.2.2.2 dX7_readMessage_34 (fun H locs w => ?_)
    obtain ⟨M_26, eM_26⟩ : ∃ zz, zz = mm_w M x 11 ((M.1 x 11) + (1 : Int32)) := ⟨_, rfl⟩
    rw [← eM_26] at w
    refine lv_iconst (v := (-1)) C.1 C.2.1 dX7_readMessage_37 (by decide) ?_
    exact m_iret C w (by subst eM_26; exact Eq.symm (((if_neg (Nat.not_le.mpr h_3)).trans rfl))) dX7_readMessage_38

def f_X7_readMessage_2_B1 (x : Nat) (M_13 : mm_M) (v_14 : Int32) : Int32 × mm_M :=
  if ¬ (v_14) = (-1 : Int32) then (let M_16 := mm_w M_13 x 10 (3 : Int32)
  let M_18 := f_X10_split (x + 5) (x + 14) (x + 11) M_16
  ((v_14), M_18)) else (let v_20 := (f_X7_refuse x M_13).1
  let M_19 := (f_X7_refuse x M_13).2
  ((v_20), M_19))
theorem w_f_X7_readMessage_2_B1 (x : Nat) (M_13 : mm_M) (v_14 : Int32) : mm_fr2 [x, 24, 23, 26, 25, 28, 29, 30, ((x + 14) + 1), ((x + 11) + 1), (x + 14), (x + 11), x + 6, x + 7, x + 9, ((x + 5) + 3)] M_13 (f_X7_readMessage_2_B1 x M_13 v_14) := by
  unfold f_X7_readMessage_2_B1
  exact (mm_fr_ite2 (fun _ => ((w_f_X10_split _ _ _ _).on (by simp) (mm_fr_w (by simp) (mm_fr_refl _ _))).b) (fun _ => ((w_f_X7_refuse _ _).m.on (by simp) (mm_fr_refl _ _)).b))
def f_X7_readMessage_2_B2 (x : Nat) (p1 : Nat) (M_8 : mm_M) (v_9 : Int32) : Int32 × mm_M :=
  if ¬ (v_9) = (-1 : Int32) then (let M_11 := f_X4_multiply (x + 2) (x + 3) M_8
  let M_12 := f_X10_mixKey (x + 5) 15 M_11
  let v_14 := (f_X10_decryptAndHash (x + 5) 1 48 (p1 - 48) 2 0 M_12).1
  let M_13 := (f_X10_decryptAndHash (x + 5) 1 48 (p1 - 48) 2 0 M_12).2
  f_X7_readMessage_2_B1 x M_13 v_14) else (let v_22 := (f_X7_refuse x M_8).1
  let M_21 := (f_X7_refuse x M_8).2
  ((v_22), M_21))
theorem w_f_X7_readMessage_2_B2 (x : Nat) (p1 : Nat) (M_8 : mm_M) (v_9 : Int32) : mm_fr2 [14, 16, 17, 18, 19, 20, 22, 21, 15, 24, 23, 26, 25, 28, 29, 30, ((x + 5) + 2), ((x + 5) + 4), ((x + 5) + 3), 34, 35, 33, 37, 40, 38, 39, 31, 41, 2, ((x + 5) + 1), x, ((x + 14) + 1), ((x + 11) + 1), (x + 14), (x + 11), x + 6, x + 7, x + 9] M_8 (f_X7_readMessage_2_B2 x p1 M_8 v_9) := by
  unfold f_X7_readMessage_2_B2
  exact (mm_fr_ite2 (fun _ => ((w_f_X7_readMessage_2_B1 _ _ _).on (by simp) ((w_f_X10_decryptAndHash _ _ _ _ _ _ _).m.on (by simp) ((w_f_X10_mixKey _ _ _).on (by simp) ((w_f_X4_multiply _ _ _).on (by simp) (mm_fr_refl _ _)))))) (fun _ => ((w_f_X7_refuse _ _).m.on (by simp) (mm_fr_refl _ _)).b))
def f_X7_readMessage_2 (x : Nat) (p1 : Nat) (M : mm_M) : Int32 × mm_M :=
  if 64 ≤ p1 then (let M_4 := f_X10_copyFrom 43 (x + 5) M
  let v_9 := (f_X10_decryptAndHash (x + 5) 1 0 48 (x + 3) 0 M_4).1
  let M_8 := (f_X10_decryptAndHash (x + 5) 1 0 48 (x + 3) 0 M_4).2
  f_X7_readMessage_2_B2 x p1 M_8 v_9) else (let M_23 := mm_w M x 11 ((M.1 x 11) + (1 : Int32))
  ((-1 : Int32), M_23))
theorem w_f_X7_readMessage_2 (x : Nat) (p1 : Nat) (M : mm_M) : mm_fr2 [43 + 1, 43 + 2, 43 + 4, (43 + 3), 34, 35, 33, 37, 40, 38, 39, 31, 41, (x + 3), ((x + 5) + 3), 24, 23, 26, 25, ((x + 5) + 1), 14, 16, 17, 18, 19, 20, 22, 21, 15, 28, 29, 30, ((x + 5) + 2), ((x + 5) + 4), 2, x, ((x + 14) + 1), ((x + 11) + 1), (x + 14), (x + 11), x + 6, x + 7, x + 9] M (f_X7_readMessage_2 x p1 M) := by
  unfold f_X7_readMessage_2
  exact (mm_fr_ite2 (fun _ => ((w_f_X7_readMessage_2_B2 _ _ _ _).on (by simp) ((w_f_X10_decryptAndHash _ _ _ _ _ _ _).m.on (by simp) ((w_f_X10_copyFrom _ _ _).on (by simp) (mm_fr_refl _ _))))) (fun _ => (mm_fr_w (by simp) (mm_fr_refl _ _)).b))
set_option maxHeartbeats 4000000 in
set_option maxRecDepth 100000 in
theorem c_X7_readMessage_2 (l : Launch) (D : va_G) (b0 : Nat) (r : Nat → Nat) (M : mm_M) (x : Nat) (p1 : Nat) (hx : mm_ses x) (hp1 : p1 ≤ 1000) (h0 : M.1 x 10 = nI 2) (hk : ¬ M.1 (x + 5 + 3) 3 = 0) : mm_Mi l yX7_readMessage cX7_readMessage 6 .int 6 182 D b0 r [.ref (r (x)), .ref (r (1)), .int (nI (p1)), .ref (r (2))] M (fun v M' => (v, M') = f_X7_readMessage_2 x p1 M) := by
  refine mm_enter (cc := cX7_readMessage) (nL := 6) (ret := (some .int)) (by decide) (Nat.le_of_ble_eq_true rfl) ?_
  intro p e s m args below meth c C w ls hl
  have hl : lv_has ls 6 [(0, .ref (r (x))), (1, .ref (r (1))), (2, .int (nI (p1))), (3, .ref (r (2)))] := hl
  have hx49 := hx.2.1
  have hx16 := hx.1
  refine lv_aload_n C.1 C.2.1 dX7_readMessage_0 rfl (lv_at hl 0 rfl) ?_
  refine m_get C w (k := x) (j := 10) (v := .int (M.1 x 10)) flX7_28 (by have := hx.1; omega) hx.2.2.1 (mm_v0 hx.2.2.2.2.2.2.2.2.2.2.2.2.2.2.2.2.2.1) dX7_readMessage_1 ?_
  refine m_i (y := nI (2)) h0 ?_
  refine lv_if_lt (tgt := 27) C.1 C.2.1 dX7_readMessage_4 (by decide) (fun h_1 => absurd h_1 (nI_pos (by decide))) (fun _ => ?_)
  refine lv_aload_n C.1 C.2.1 dX7_readMessage_7 rfl (lv_at hl 0 rfl) ?_
  refine m_get C w (k := x) (j := 10) (v := .int (M.1 x 10)) flX7_28 (by have := hx.1; omega) hx.2.2.1 (mm_v0 hx.2.2.2.2.2.2.2.2.2.2.2.2.2.2.2.2.2.1) dX7_readMessage_8 ?_
  refine m_i (y := nI (2)) h0 ?_
  refine lv_iconst (v := 3) C.1 C.2.1 dX7_readMessage_11 (by decide) ?_
  refine m_icmp_ge (tgt := 27) (a := 2) (b := 3) C (by omega) (by omega) dX7_readMessage_12 (by decide) (fun h_2 => absurd h_2 (by decide)) (fun _ => ?_)
  refine lv_iload_n C.1 C.2.1 dX7_readMessage_15 rfl (lv_at hl 2 rfl) ?_
  refine m_gets C w C.2.2.2.2.2.2.2.1.2.2.2.2.2.2.2.1 fsX7_108 dX7_readMessage_16 ?_
  refine lv_aload_n C.1 C.2.1 dX7_readMessage_19 rfl (lv_at hl 0 rfl) ?_
  refine m_get C w (k := x) (j := 10) (v := .int (M.1 x 10)) flX7_28 (by have := hx.1; omega) hx.2.2.1 (mm_v0 hx.2.2.2.2.2.2.2.2.2.2.2.2.2.2.2.2.2.1) dX7_readMessage_20 ?_
  refine m_i (y := nI (2)) h0 ?_
  refine m_iald C w (k := 180) (i := 2) (n := 3) (wr := false) (by decide) rfl (by omega) (by decide) dX7_readMessage_23 ?_
  refine m_i (y := nI (64)) (by rw [w.1.tab (k := 180) (by decide) rfl (by decide)]; rfl) ?_
  refine m_icmp_ge (tgt := 39) (a := p1) (b := 64) C (by omega) (by omega) dX7_readMessage_24 (by decide) (fun h_3 => ?_) (fun h_3 => ?_)
  · refine lv_aload_n C.1 C.2.1 dX7_readMessage_39 rfl (lv_at hl 0 rfl) ?_
    refine m_get C w (k := x) (j := 2) (v := .ref (r (43))) flX7_51 (by have := hx.1; omega) hx.2.2.1 (mm_v3 hx.2.2.2.2.2.2.2.2.2.1) dX7_readMessage_40 ?_
    refine lv_aload_n C.1 C.2.1 dX7_readMessage_43 rfl (lv_at hl 0 rfl) ?_
    refine m_get C w (k := x) (j := 1) (v := .ref (r (x + 5))) flX7_47 (by have := hx.1; omega) hx.2.2.1 (mm_v3 hx.2.2.2.2.2.2.2.2.1) dX7_readMessage_44 ?_
    refine m_cvv C w hl cvX7_112 (k := 43) (by decide) rfl (q := (RX10, TX10, 5)) rfl rfl (As := [.ref (r (x + 5))]) (rest := []) (c_X10_copyFrom l D b0 r M 43 (x + 5) mm_spare hx.2.2.2.2.1) rfl rfl (Nat.le_of_ble_eq_true rfl) ⟨Nat.le_of_ble_eq_true rfl, Nat.le_of_ble_eq_true rfl⟩ ⟨Nat.zero_le _, Nat.zero_le _⟩ dX7_readMessage_47 (fun M_4 H locs eM_4 w => ?_)
    refine lv_iconst (v := 0) C.1 C.2.1 dX7_readMessage_50 (by decide) ?_
    refine lv_istore (lv' := [(4, .int 0), (0, .ref (r (x))), (1, .ref (r (1))), (2, .int (nI (p1))), (3, .ref (r (2)))]) C.1 C.2.1 dX7_readMessage_51 hl (by decide) rfl (fun ls hl => ?_)
    refine lv_aload_n C.1 C.2.1 dX7_readMessage_53 rfl (lv_at hl 1 rfl) ?_
    refine m_get C w (k := x) (j := 10) (v := .int (M_4.1 x 10)) flX7_28 (by have := hx.1; omega) hx.2.2.1 (mm_v0 hx.2.2.2.2.2.2.2.2.2.2.2.2.2.2.2.2.2.1) dX7_readMessage_54 ?_
    refine m_i (y := nI (2)) (by have hf : mm_fr [43 + 1, 43 + 2, 43 + 4, (43 + 3)] M M_4 := (by subst eM_4; exact ((w_f_X10_copyFrom _ _ _).on (by simp) (mm_fr_refl _ _))); rw [(hf x (by first | (simp; done) | (simp; omega))).1]; exact h0) ?_
    refine lv_iconst (v := 2) C.1 C.2.1 dX7_readMessage_57 (by decide) ?_
    refine m_icmp_eq (tgt := 88) (a := 2) (b := 2) C (by omega) (by omega) dX7_readMessage_58 (by decide) (fun _ => ?_) (fun h_5 => absurd h_5 (by decide))
    refine lv_aload_n C.1 C.2.1 dX7_readMessage_88 rfl (lv_at hl 1 rfl) ?_
    refine m_get C w (k := x) (j := 10) (v := .int (M_4.1 x 10)) flX7_28 (by have := hx.1; omega) hx.2.2.1 (mm_v0 hx.2.2.2.2.2.2.2.2.2.2.2.2.2.2.2.2.2.1) dX7_readMessage_89 ?_
    refine m_i (y := nI (2)) (by have hf : mm_fr [43 + 1, 43 + 2, 43 + 4, (43 + 3)] M M_4 := (by subst eM_4; exact ((w_f_X10_copyFrom _ _ _).on (by simp) (mm_fr_refl _ _))); rw [(hf x (by first | (simp; done) | (simp; omega))).1]; exact h0) ?_
    refine lv_iconst (v := 1) C.1 C.2.1 dX7_readMessage_92 (by decide) ?_
    refine m_icmp_ne (tgt := 118) (a := 2) (b := 1) C (by omega) (by omega) dX7_readMessage_93 (by decide) (fun _ => ?_) (fun h_6 => absurd h_6 (by decide))
    refine lv_aload_n C.1 C.2.1 dX7_readMessage_118 rfl (lv_at hl 1 rfl) ?_
    refine m_get C w (k := x) (j := 10) (v := .int (M_4.1 x 10)) flX7_28 (by have := hx.1; omega) hx.2.2.1 (mm_v0 hx.2.2.2.2.2.2.2.2.2.2.2.2.2.2.2.2.2.1) dX7_readMessage_119 ?_
    refine m_i (y := nI (2)) (by have hf : mm_fr [43 + 1, 43 + 2, 43 + 4, (43 + 3)] M M_4 := (by subst eM_4; exact ((w_f_X10_copyFrom _ _ _).on (by simp) (mm_fr_refl _ _))); rw [(hf x (by first | (simp; done) | (simp; omega))).1]; exact h0) ?_
    refine m_if_eq (tgt := 176) (a := 2) C (by omega) dX7_readMessage_122 (by decide) (fun h_7 => absurd h_7 (by decide)) (fun _ => ?_)
    refine lv_aload_n C.1 C.2.1 dX7_readMessage_125 rfl (lv_at hl 1 rfl) ?_
    refine m_get C w (k := x) (j := 1) (v := .ref (r (x + 5))) flX7_47 (by have := hx.1; omega) hx.2.2.1 (mm_v3 hx.2.2.2.2.2.2.2.2.1) dX7_readMessage_126 ?_
    refine lv_aload_n C.1 C.2.1 dX7_readMessage_129 rfl (lv_at hl 2 rfl) ?_
    refine lv_iload C.1 C.2.1 dX7_readMessage_130 (lv_at hl 0 rfl) ?_
    refine lv_bipush (v := 48) C.1 C.2.1 dX7_readMessage_132 (by decide) ?_
    refine lv_aload_n C.1 C.2.1 dX7_readMessage_134 rfl (lv_at hl 1 rfl) ?_
    refine m_get C w (k := x) (j := 7) (v := .ref (r (x + 3))) flX7_18 (by have := hx.1; omega) hx.2.2.1 (mm_v3 hx.2.2.2.2.2.2.2.2.2.2.2.2.2.2.1) dX7_readMessage_135 ?_
    refine lv_iconst (v := 0) C.1 C.2.1 dX7_readMessage_138 (by decide) ?_
    refine m_cvi C w hl cvX7_116 (k := x + 5) (by have := hx.2.2.2.2.1.1; omega) hx.2.2.2.2.1.2.1 (q := (RX10, TX10, 5)) rfl rfl (As := [.ref (r (1)), .int 0, .int 48, .ref (r (x + 3)), .int 0]) (rest := []) (c_X10_decryptAndHash l D b0 r M_4 (x + 5) 1 0 48 (x + 3) 0 hx.2.2.2.2.1 (by decide) rfl (by decide) (by omega) (by omega) (by have := hx.1; omega) (hx.2.2.2.1 2 (by decide)) (by decide) ⟨fun q => absurd q (by have hf : mm_fr [43 + 1, 43 + 2, 43 + 4, (43 + 3)] M M_4 := (by subst eM_4; exact ((w_f_X10_copyFrom _ _ _).on (by simp) (mm_fr_refl _ _))); rw [(hf (x + 5 + 3) (by simp; omega)).1]; exact hk), fun _ => by omega⟩ (by omega)) rfl rfl (Nat.le_of_ble_eq_true rfl) ⟨Nat.le_of_ble_eq_true rfl, Nat.le_of_ble_eq_true rfl⟩ ⟨Nat.zero_le _, Nat.zero_le _⟩ dX7_readMessage_139 (fun v_9 M_8 H locs e9 w => ?_)
    obtain ⟨ev_9, eM_8⟩ : v_9 = (f_X10_decryptAndHash (x + 5) 1 0 48 (x + 3) 0 M_4).1 ∧ M_8 = (f_X10_decryptAndHash (x + 5) 1 0 48 (x + 3) 0 M_4).2 := ⟨congrArg Prod.fst e9, congrArg Prod.snd e9⟩
    clear e9
    refine lv_iconst (v := (-1)) C.1 C.2.1 dX7_readMessage_142 (by decide) ?_
    refine lv_icmp_ne (tgt := 151) C.1 C.2.1 dX7_readMessage_143 (by decide) (fun h_10 => ?_) (fun h_10 => ?_)
    · refine lv_aload_n C.1 C.2.1 dX7_readMessage_151 rfl (lv_at hl 1 rfl) ?_
      refine m_get C w (k := x) (j := 1) (v := .ref (r (x + 5))) flX7_47 (by have := hx.1; omega) hx.2.2.1 (mm_v3 hx.2.2.2.2.2.2.2.2.1) dX7_readMessage_152 ?_
      refine lv_aload_n C.1 C.2.1 dX7_readMessage_155 rfl (lv_at hl 1 rfl) ?_
      refine m_get C w (k := x) (j := 0) (v := .ref (r (13))) flX7_41 (by have := hx.1; omega) hx.2.2.1 (mm_v3 hx.2.2.2.2.2.2.2.1) dX7_readMessage_156 ?_
      refine lv_aload_n C.1 C.2.1 dX7_readMessage_159 rfl (lv_at hl 1 rfl) ?_
      refine m_get C w (k := x) (j := 6) (v := .ref (r (x + 2))) flX7_15 (by have := hx.1; omega) hx.2.2.1 (mm_v3 hx.2.2.2.2.2.2.2.2.2.2.2.2.2.1) dX7_readMessage_160 ?_
      refine lv_aload_n C.1 C.2.1 dX7_readMessage_163 rfl (lv_at hl 1 rfl) ?_
      refine m_get C w (k := x) (j := 7) (v := .ref (r (x + 3))) flX7_18 (by have := hx.1; omega) hx.2.2.1 (mm_v3 hx.2.2.2.2.2.2.2.2.2.2.2.2.2.2.1) dX7_readMessage_164 ?_
      refine m_cvr C w hl cvX7_92 (k := 13) (by decide) rfl (q := (RX4, TX4, 9)) rfl rfl (As := [.ref (r (x + 2)), .ref (r (x + 3))]) (rest := [.ref (r (x + 5))]) (c_X4_multiply l D b0 r M_8 (x + 2) (x + 3) (by have := hx.1; omega) (hx.2.2.2.1 1 (by decide)) (by decide) (by omega) (by have := hx.1; omega) (hx.2.2.2.1 2 (by decide)) (by decide) (by omega)) rfl rfl (Nat.le_of_ble_eq_true rfl) ⟨Nat.le_of_ble_eq_true rfl, Nat.le_of_ble_eq_true rfl⟩ ⟨Nat.zero_le _, Nat.zero_le _⟩ dX7_readMessage_167 (fun M_11 H locs eM_11 w => ?_)
      refine m_cvv C w hl cvX7_96 (k := x + 5) (by have := hx.2.2.2.2.1.1; omega) hx.2.2.2.2.1.2.1 (q := (RX10, TX10, 5)) rfl rfl (As := [.ref (r (15))]) (rest := []) (c_X10_mixKey l D b0 r M_11 (x + 5) 15 hx.2.2.2.2.1 (by decide) rfl (by decide) (by omega) (by omega)) rfl rfl (Nat.le_of_ble_eq_true rfl) ⟨Nat.le_of_ble_eq_true rfl, Nat.le_of_ble_eq_true rfl⟩ ⟨Nat.zero_le _, Nat.zero_le _⟩ dX7_readMessage_170 (fun M_12 H locs eM_12 w => ?_)
      refine lv_iinc (v := (48 : Int32)) (lv' := [(4, .int 48), (0, .ref (r (x))), (1, .ref (r (1))), (2, .int (nI (p1))), (3, .ref (r (2)))]) C.1 C.2.1 dX7_readMessage_173 hl (k := 0) rfl (nI_add 0 48) (by decide) rfl (fun ls hl => ?_)
      refine lv_aload_n C.1 C.2.1 dX7_readMessage_176 rfl (lv_at hl 1 rfl) ?_
      refine m_get C w (k := x) (j := 1) (v := .ref (r (x + 5))) flX7_47 (by have := hx.1; omega) hx.2.2.1 (mm_v3 hx.2.2.2.2.2.2.2.2.1) dX7_readMessage_177 ?_
      refine lv_aload_n C.1 C.2.1 dX7_readMessage_180 rfl (lv_at hl 2 rfl) ?_
      refine lv_iload C.1 C.2.1 dX7_readMessage_181 (lv_at hl 0 rfl) ?_
      refine lv_iload_n C.1 C.2.1 dX7_readMessage_183 rfl (lv_at hl 3 rfl) ?_
      refine lv_iload C.1 C.2.1 dX7_readMessage_184 (lv_at hl 0 rfl) ?_
      refine lv_isub C.1 C.2.1 dX7_readMessage_186 ?_
      refine m_i (y := nI (p1 - 48)) (pk_sub (a := p1) (b := 48) (by omega)) ?_
      refine lv_aload_n C.1 C.2.1 dX7_readMessage_187 rfl (lv_at hl 4 rfl) ?_
      refine lv_iconst (v := 0) C.1 C.2.1 dX7_readMessage_188 (by decide) ?_
      refine m_cvi C w hl cvX7_116 (k := x + 5) (by have := hx.2.2.2.2.1.1; omega) hx.2.2.2.2.1.2.1 (q := (RX10, TX10, 5)) rfl rfl (As := [.ref (r (1)), .int 48, .int (nI (p1 - 48)), .ref (r (2)), .int 0]) (rest := []) (c_X10_decryptAndHash l D b0 r M_12 (x + 5) 1 48 (p1 - 48) 2 0 hx.2.2.2.2.1 (by decide) rfl (by decide) (by omega) (by omega) (by decide) rfl (by decide) ⟨fun _ => by omega, fun _ => by omega⟩ (by omega)) rfl rfl (Nat.le_of_ble_eq_true rfl) ⟨Nat.le_of_ble_eq_true rfl, Nat.le_of_ble_eq_true rfl⟩ ⟨Nat.zero_le _, Nat.zero_le _⟩ dX7_readMessage_189 (fun v_14 M_13 H locs e9 w => ?_)
      obtain ⟨ev_14, eM_13⟩ : v_14 = (f_X10_decryptAndHash (x + 5) 1 48 (p1 - 48) 2 0 M_12).1 ∧ M_13 = (f_X10_decryptAndHash (x + 5) 1 48 (p1 - 48) 2 0 M_12).2 := ⟨congrArg Prod.fst e9, congrArg Prod.snd e9⟩
      clear e9
      refine lv_istore (lv' := [(5, .int (v_14)), (4, .int 48), (0, .ref (r (x))), (1, .ref (r (1))), (2, .int (nI (p1))), (3, .ref (r (2)))]) C.1 C.2.1 dX7_readMessage_192 hl (by decide) rfl (fun ls hl => ?_)
      refine lv_iload C.1 C.2.1 dX7_readMessage_194 (lv_at hl 0 rfl) ?_
      refine lv_iconst (v := (-1)) C.1 C.2.1 dX7_readMessage_196 (by decide) ?_
      refine lv_icmp_ne (tgt := 205) C.1 C.2.1 dX7_readMessage_197 (by decide) (fun h_15 => ?_) (fun h_15 => ?_)
      · refine lv_aload_n C.1 C.2.1 dX7_readMessage_205 rfl (lv_at hl 2 rfl) ?_
        refine lv_dup C.1 C.2.1 dX7_readMessage_206 rfl ?_
        refine m_get C w (k := x) (j := 10) (v := .int (M_13.1 x 10)) flX7_28 (by have := hx.1; omega) hx.2.2.1 (mm_v0 hx.2.2.2.2.2.2.2.2.2.2.2.2.2.2.2.2.2.1) dX7_readMessage_207 ?_
        refine m_i (y := nI (2)) (by have hf : mm_fr [43 + 1, 43 + 2, 43 + 4, (43 + 3), 34, 35, 33, 37, 40, 38, 39, 31, 41, (x + 3), ((x + 5) + 3), 24, 23, 26, 25, ((x + 5) + 1), 14, 16, 17, 18, 19, 20, 22, 21, 15, 28, 29, 30, ((x + 5) + 2), ((x + 5) + 4), 2] M M_13 := (by subst eM_4 ev_9 eM_8 eM_11 eM_12 ev_14 eM_13; exact ((w_f_X10_decryptAndHash _ _ _ _ _ _ _).m.on (by simp) ((w_f_X10_mixKey _ _ _).on (by simp) ((w_f_X4_multiply _ _ _).on (by simp) ((w_f_X10_decryptAndHash _ _ _ _ _ _ _).m.on (by simp) ((w_f_X10_copyFrom _ _ _).on (by simp) (mm_fr_refl _ _))))))); rw [(hf x (by first | (simp; done) | (simp; omega))).1]; exact h0) ?_
        refine lv_iconst (v := 1) C.1 C.2.1 dX7_readMessage_210 (by decide) ?_
        refine lv_iadd C.1 C.2.1 dX7_readMessage_211 ?_
        refine m_i (y := nI (3)) (nI_add 2 1) ?_
        refine m_puti C w (k := x) (j := 10) (x := (3 : Int32)) rfl flX7_28w (by have := hx.1; omega) hx.2.2.1 hx.2.2.2.2.2.2.2.2.2.2.2.2.2.2.2.2.2.1 dX7_readMessage_212 (fun H locs w => ?_)
        obtain ⟨M_16, eM_16⟩ : ∃ zz, zz = mm_w M_13 x 10 (3 : Int32) := ⟨_, rfl⟩
        rw [← eM_16] at w
        refine lv_aload_n C.1 C.2.1 dX7_readMessage_215 rfl (lv_at hl 2 rfl) ?_
        refine m_get C w (k := x) (j := 10) (v := .int (M_16.1 x 10)) flX7_28 (by have := hx.1; omega) hx.2.2.1 (mm_v0 hx.2.2.2.2.2.2.2.2.2.2.2.2.2.2.2.2.2.1) dX7_readMessage_216 ?_
        refine m_i (y := nI (3)) (by rw [eM_16]; simp [mm_w]; try rfl) ?_
        refine lv_iconst (v := 3) C.1 C.2.1 dX7_readMessage_219 (by decide) ?_
        refine m_icmp_ne (tgt := 238) (a := 3) (b := 3) C (by omega) (by omega) dX7_readMessage_220 (by decide) (fun h_17 => absurd h_17 (by decide)) (fun _ => ?_)
        refine lv_aload_n C.1 C.2.1 dX7_readMessage_223 rfl (lv_at hl 2 rfl) ?_
        refine m_get C w (k := x) (j := 1) (v := .ref (r (x + 5))) flX7_47 (by have := hx.1; omega) hx.2.2.1 (mm_v3 hx.2.2.2.2.2.2.2.2.1) dX7_readMessage_224 ?_
        refine lv_aload_n C.1 C.2.1 dX7_readMessage_227 rfl (lv_at hl 2 rfl) ?_
        refine m_get C w (k := x) (j := 4) (v := .ref (r (x + 14))) flX7_67 (by have := hx.1; omega) hx.2.2.1 (mm_v3 hx.2.2.2.2.2.2.2.2.2.2.2.1) dX7_readMessage_228 ?_
        refine lv_aload_n C.1 C.2.1 dX7_readMessage_231 rfl (lv_at hl 2 rfl) ?_
        refine m_get C w (k := x) (j := 3) (v := .ref (r (x + 11))) flX7_63 (by have := hx.1; omega) hx.2.2.1 (mm_v3 hx.2.2.2.2.2.2.2.2.2.2.1) dX7_readMessage_232 ?_
        refine m_cvv C w hl cvX7_104 (k := x + 5) (by have := hx.2.2.2.2.1.1; omega) hx.2.2.2.2.1.2.1 (q := (RX10, TX10, 5)) rfl rfl (As := [.ref (r (x + 14)), .ref (r (x + 11))]) (rest := []) (c_X10_split l D b0 r M_16 (x + 5) (x + 14) (x + 11) hx.2.2.2.2.1 hx.2.2.2.2.2.2.1 hx.2.2.2.2.2.1) rfl rfl (Nat.le_of_ble_eq_true rfl) ⟨Nat.le_of_ble_eq_true rfl, Nat.le_of_ble_eq_true rfl⟩ ⟨Nat.zero_le _, Nat.zero_le _⟩ dX7_readMessage_235 (fun M_18 H locs eM_18 w => ?_)
        refine lv_iload C.1 C.2.1 dX7_readMessage_238 (lv_at hl 0 rfl) ?_
        exact m_iret C w (by subst eM_4 ev_9 eM_8 eM_11 eM_12 ev_14 eM_13 eM_16 eM_18; exact Eq.symm (((if_pos h_3).trans ((if_pos h_10).trans ((if_pos h_15).trans rfl))))) dX7_readMessage_240
      · refine lv_aload_n C.1 C.2.1 dX7_readMessage_200 rfl (lv_at hl 2 rfl) ?_
        refine m_cvi C w hl cvX7_119 (k := x) (by have := hx.1; omega) hx.2.2.1 (q := (RX7, TX7, 12)) rfl rfl (As := []) (rest := []) (c_X7_refuse l D b0 r M_13 x hx) rfl rfl (Nat.le_of_ble_eq_true rfl) ⟨Nat.le_of_ble_eq_true rfl, Nat.le_of_ble_eq_true rfl⟩ ⟨Nat.zero_le _, Nat.zero_le _⟩ dX7_readMessage_201 (fun v_20 M_19 H locs e9 w => ?_)
        obtain ⟨ev_20, eM_19⟩ : v_20 = (f_X7_refuse x M_13).1 ∧ M_19 = (f_X7_refuse x M_13).2 := ⟨congrArg Prod.fst e9, congrArg Prod.snd e9⟩
        clear e9
        exact m_iret C w (by subst eM_4 ev_9 eM_8 eM_11 eM_12 ev_14 eM_13 ev_20 eM_19; exact Eq.symm (((if_pos h_3).trans ((if_pos h_10).trans ((if_neg (fun q => q h_15)).trans rfl))))) dX7_readMessage_204
    · refine lv_aload_n C.1 C.2.1 dX7_readMessage_146 rfl (lv_at hl 1 rfl) ?_
      refine m_cvi C w hl cvX7_119 (k := x) (by have := hx.1; omega) hx.2.2.1 (q := (RX7, TX7, 12)) rfl rfl (As := []) (rest := []) (c_X7_refuse l D b0 r M_8 x hx) rfl rfl (Nat.le_of_ble_eq_true rfl) ⟨Nat.le_of_ble_eq_true rfl, Nat.le_of_ble_eq_true rfl⟩ ⟨Nat.zero_le _, Nat.zero_le _⟩ dX7_readMessage_147 (fun v_22 M_21 H locs e9 w => ?_)
      obtain ⟨ev_22, eM_21⟩ : v_22 = (f_X7_refuse x M_8).1 ∧ M_21 = (f_X7_refuse x M_8).2 := ⟨congrArg Prod.fst e9, congrArg Prod.snd e9⟩
      clear e9
      exact m_iret C w (by subst eM_4 ev_9 eM_8 ev_22 eM_21; exact Eq.symm (((if_pos h_3).trans ((if_neg (fun q => q h_10)).trans rfl)))) dX7_readMessage_150
  · refine lv_aload_n C.1 C.2.1 dX7_readMessage_27 rfl (lv_at hl 0 rfl) ?_
    refine lv_dup C.1 C.2.1 dX7_readMessage_28 rfl ?_
    refine m_get C w (k := x) (j := 11) (v := .int (M.1 x 11)) flX7_32 (by have := hx.1; omega) hx.2.2.1 (mm_v0 hx.2.2.2.2.2.2.2.2.2.2.2.2.2.2.2.2.2.2) dX7_readMessage_29 ?_
    refine lv_iconst (v := 1) C.1 C.2.1 dX7_readMessage_32 (by decide) ?_
    refine lv_iadd C.1 C.2.1 dX7_readMessage_33 ?_
    refine m_puti C w (k := x) (j := 11) (x := ((M.1 x 11) + (1 : Int32))) rfl flX7_32w (by have := hx.1; omega) hx.2.2.1 hx.2.2.2.2.2.2.2.2.2.2.2.2.2.2.2.2.2.2 dX7_readMessage_34 (fun H locs w => ?_)
    obtain ⟨M_23, eM_23⟩ : ∃ zz, zz = mm_w M x 11 ((M.1 x 11) + (1 : Int32)) := ⟨_, rfl⟩
    rw [← eM_23] at w
    refine lv_iconst (v := (-1)) C.1 C.2.1 dX7_readMessage_37 (by decide) ?_
    exact m_iret C w (by subst eM_23; exact Eq.symm (((if_neg (Nat.not_le.mpr h_3)).trans rfl))) dX7_readMessage_38

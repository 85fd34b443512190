def f_X12_start__L151 (q1 : Nat) (σ : mm_M) : Nat → mm_M
  | 0 => σ
  | t + 1 =>
  let M_31 := f_X12_start__L151 q1 σ t
  let M_33 := mm_w M_31 157 (352 * q1 + t) (mm_b (mm_ch t))
  let M_34 := mm_w M_33 157 (352 * q1 + 32 + t) (mm_b (mm_ch t))
  M_34
theorem w_f_X12_start__L151 (q1 : Nat) (σ : mm_M) : ∀ t : Nat, mm_fr [157] σ (f_X12_start__L151 q1 σ t)
  | 0 => mm_fr_refl _ _
  | t + 1 => have ih := w_f_X12_start__L151 q1 σ t
    (mm_fr_w (by simp) (mm_fr_w (by simp) ih))
def f_X12_start__L53 (q1 : Nat) (σ : mm_M) : Nat → mm_M
  | 0 => σ
  | t + 1 =>
  let M_35 := f_X12_start__L53 q1 σ t
  let M_37 := mm_w M_35 157 (352 * q1 + t) (0 : Int32)
  M_37
theorem w_f_X12_start__L53 (q1 : Nat) (σ : mm_M) : ∀ t : Nat, mm_fr [157] σ (f_X12_start__L53 q1 σ t)
  | 0 => mm_fr_refl _ _
  | t + 1 => have ih := w_f_X12_start__L53 q1 σ t
    (mm_fr_w (by simp) ih)
def f_X12_start_ (v1 : Int32) (v2 : Int32) (v3 : Int32) (v4 : Int32) (v5 : Int32) (ts : Nat) (M : mm_M) : Int32 × mm_M :=
  if ¬ f_X12_in v1 0 3 = 0 ∧ ¬ f_X12_isKey v3 = 0 ∧ ¬ f_X12_isKey v4 = 0 ∧ ¬ f_X12_in v5 0 (nI ts) = 0 then (let q1 := (v1).toNatClampNeg
  let q3 := (v3).toNatClampNeg
  let q4 := (v4).toNatClampNeg
  let q5 := (v5).toNatClampNeg
  let M_9 := f_X12_takes ts M
  let M_10 := f_X12_start__L53 q1 M_9 352
  let M_12 := mm_w M_10 159 q1 (1 : Int32)
  let M_13 := mm_w M_12 160 q1 (v2)
  let M_14 := mm_w M_13 161 q1 (0 : Int32)
  let M_15 := mm_w M_14 162 q1 (0 : Int32)
  let M_16 := mm_w M_15 163 q1 (0 : Int32)
  let M_17 := mm_w M_16 164 q1 (0 : Int32)
  let M_18 := mm_w M_17 165 q1 (0 : Int32)
  let M_19 := mm_wl M_18 166 q1 (0)
  let M_20 := mm_wl M_19 167 q1 (0)
  let M_21 := mm_wl M_20 168 q1 (0)
  let M_22 := f_X12_start__L151 q1 M_21 32
  let M_24 := f_X12_mixHash q1 119 0 q5 M_22
  let M_25 := f_X12_copy 122 (32 * q3) 157 (352 * q1 + 160) 32 M_24
  let M_26 := f_X12_copy 122 (32 * q4) 157 (352 * q1 + 224) 32 M_25
  let M_27 := f_X12_curvedOwn 157 (352 * q1 + 160) M_26
  let M_28 := f_X12_copy 145 0 157 (352 * q1 + 192) 32 M_27
  let M_29 := f_X12_curvedOwn 157 (352 * q1 + 224) M_28
  let M_30 := f_X12_copy 145 0 157 (352 * q1 + 256) 32 M_29
  ((1 : Int32), M_30)) else (if (f_X12_in (v1) (0 : Int32) (3 : Int32)) = (0 : Int32) then (((0 : Int32), M)) else (if (f_X12_isKey (v3)) = (0 : Int32) then (((0 : Int32), M)) else (if (f_X12_isKey (v4)) = (0 : Int32) then (((0 : Int32), M)) else (((0 : Int32), M)))))
theorem w_f_X12_start_ (v1 : Int32) (v2 : Int32) (v3 : Int32) (v4 : Int32) (v5 : Int32) (ts : Nat) (M : mm_M) : mm_fr2 [119, 117, 159, 160, 161, 162, 163, 164, 165, 166, 167, 168, 128, 129, 126, 127, 125, 157, 146, 144, 132, 134, 133, 136, 140, 142, 135, 143, 139, 145, 141, 137, 138] M (f_X12_start_ v1 v2 v3 v4 v5 ts M) := by
  unfold f_X12_start_
  exact (mm_fr_ite2 (fun _ => ((w_f_X12_copy _ _ _ _ _ _).on (by simp) ((w_f_X12_curvedOwn _ _ _).on (by simp) ((w_f_X12_copy _ _ _ _ _ _).on (by simp) ((w_f_X12_curvedOwn _ _ _).on (by simp) ((w_f_X12_copy _ _ _ _ _ _).on (by simp) ((w_f_X12_copy _ _ _ _ _ _).on (by simp) ((w_f_X12_mixHash _ _ _ _ _).on (by simp) ((w_f_X12_start__L151 _ _ 32).on (by simp) (mm_fr_wl (by simp) (mm_fr_wl (by simp) (mm_fr_wl (by simp) (mm_fr_w (by simp) (mm_fr_w (by simp) (mm_fr_w (by simp) (mm_fr_w (by simp) (mm_fr_w (by simp) (mm_fr_w (by simp) (mm_fr_w (by simp) ((w_f_X12_start__L53 _ _ 352).on (by simp) ((w_f_X12_takes _ _).on (by simp) (mm_fr_refl _ _))))))))))))))))))))).b) (fun _ => (mm_fr_ite2 (fun _ => (mm_fr_refl _ _).b) (fun _ => (mm_fr_ite2 (fun _ => (mm_fr_refl _ _).b) (fun _ => (mm_fr_ite2 (fun _ => (mm_fr_refl _ _).b) (fun _ => (mm_fr_refl _ _).b))))))))
set_option maxHeartbeats 4000000 in
set_option maxRecDepth 100000 in
theorem c_X12_start_ (l : Launch) (D : va_G) (b0 : Nat) (r : Nat → Nat) (M : mm_M) (v1 : Int32) (v2 : Int32) (v3 : Int32) (v4 : Int32) (v5 : Int32) (ts : Nat) (hts : ts ≤ 1000) (h1 : M.1 117 4 = nI ts) (hb : v2 = 0 ∨ v2 = 1) : mm_Mi l yX12_start_ cX12_start_ 8 .boolean 5 119 D b0 r [.ref (r (117)), .int (v1), .int (v2), .int (v3), .int (v4), .int (v5)] M (fun v M' => (v, M') = f_X12_start_ v1 v2 v3 v4 v5 ts M) := by
  refine mm_enter (cc := cX12_start_) (nL := 8) (ret := (some .boolean)) (by decide) (Nat.le_of_ble_eq_true rfl) ?_
  intro p e s m args below meth c C w ls hl
  have hl : lv_has ls 8 [(0, .ref (r (117))), (1, .int (v1)), (2, .int (v2)), (3, .int (v3)), (4, .int (v4)), (5, .int (v5))] := hl
  by_cases hS : ¬ f_X12_in v1 0 3 = 0 ∧ ¬ f_X12_isKey v3 = 0 ∧ ¬ f_X12_isKey v4 = 0 ∧ ¬ f_X12_in v5 0 (nI ts) = 0
  · obtain ⟨q1, eq1⟩ : ∃ zz, zz = (v1).toNatClampNeg := ⟨_, rfl⟩
    obtain ⟨hvq1, hbq1⟩ : v1 = nI q1 ∧ q1 ≤ 3 := by rw [eq1]; exact g_inN (n := 3) (by decide) hS.1
    rw [hvq1] at hl
    obtain ⟨q3, eq3⟩ : ∃ zz, zz = (v3).toNatClampNeg := ⟨_, rfl⟩
    obtain ⟨hvq3, hbq3⟩ : v3 = nI q3 ∧ q3 < 8 := by rw [eq3]; exact g_isKey2 hS.2.1
    rw [hvq3] at hl
    obtain ⟨q4, eq4⟩ : ∃ zz, zz = (v4).toNatClampNeg := ⟨_, rfl⟩
    obtain ⟨hvq4, hbq4⟩ : v4 = nI q4 ∧ q4 < 8 := by rw [eq4]; exact g_isKey2 hS.2.2.1
    rw [hvq4] at hl
    obtain ⟨q5, eq5⟩ : ∃ zz, zz = (v5).toNatClampNeg := ⟨_, rfl⟩
    obtain ⟨hvq5, hbq5⟩ : v5 = nI q5 ∧ q5 ≤ ts := by rw [eq5]; exact g_inN (by omega) hS.2.2.2
    rw [hvq5] at hl
    have hTq1 : ¬ f_X12_in (nI q1) 0 3 = 0 := by rw [← hvq1]; exact hS.1
    have hTq3 : ¬ f_X12_isKey (nI q3) = 0 := by rw [← hvq3]; exact hS.2.1
    have hTq4 : ¬ f_X12_isKey (nI q4) = 0 := by rw [← hvq4]; exact hS.2.2.1
    have hTq5 : ¬ f_X12_in (nI q5) 0 (nI ts) = 0 := by rw [← hvq5]; exact hS.2.2.2
    refine lv_iload_n C.1 C.2.1 dX12_start__0 rfl (lv_at hl 1 rfl) ?_
    refine lv_iconst (v := 0) C.1 C.2.1 dX12_start__1 (by decide) ?_
    refine lv_iconst (v := 3) C.1 C.2.1 dX12_start__2 (by decide) ?_
    refine m_csi C w hl csX12_373 (As := [.int (nI (q1)), .int 0, .int 3]) (rest := []) (c_X12_in l D b0 r M (nI (q1)) (0 : Int32) (3 : Int32) ) rfl rfl (Nat.le_of_ble_eq_true rfl) ⟨Nat.le_of_ble_eq_true rfl, Nat.le_of_ble_eq_true rfl⟩ ⟨Nat.zero_le _, Nat.zero_le _⟩ dX12_start__3 (fun v_1 M9 H locs e9 w => ?_)
    obtain ⟨ev_1, e9⟩ := e9
    rw [e9] at w
    subst ev_1
    refine lv_if_eq (tgt := 37) C.1 C.2.1 dX12_start__6 (by decide) (fun h_2 => absurd h_2 hTq1) (fun _ => ?_)
    refine lv_iload_n C.1 C.2.1 dX12_start__9 rfl (lv_at hl 3 rfl) ?_
    refine m_csi C w hl csX12_377 (As := [.int (nI (q3))]) (rest := []) (c_X12_isKey l D b0 r M (nI (q3)) ) rfl rfl (Nat.le_of_ble_eq_true rfl) ⟨Nat.le_of_ble_eq_true rfl, Nat.le_of_ble_eq_true rfl⟩ ⟨Nat.zero_le _, Nat.zero_le _⟩ dX12_start__10 (fun v_3 M9 H locs e9 w => ?_)
    obtain ⟨ev_3, e9⟩ := e9
    rw [e9] at w
    subst ev_3
    refine lv_if_eq (tgt := 37) C.1 C.2.1 dX12_start__13 (by decide) (fun h_4 => absurd h_4 hTq3) (fun _ => ?_)
    refine lv_iload C.1 C.2.1 dX12_start__16 (lv_at hl 4 rfl) ?_
    refine m_csi C w hl csX12_377 (As := [.int (nI (q4))]) (rest := []) (c_X12_isKey l D b0 r M (nI (q4)) ) rfl rfl (Nat.le_of_ble_eq_true rfl) ⟨Nat.le_of_ble_eq_true rfl, Nat.le_of_ble_eq_true rfl⟩ ⟨Nat.zero_le _, Nat.zero_le _⟩ dX12_start__18 (fun v_5 M9 H locs e9 w => ?_)
    obtain ⟨ev_5, e9⟩ := e9
    rw [e9] at w
    subst ev_5
    refine lv_if_eq (tgt := 37) C.1 C.2.1 dX12_start__21 (by decide) (fun h_6 => absurd h_6 hTq4) (fun _ => ?_)
    refine lv_iload C.1 C.2.1 dX12_start__24 (lv_at hl 5 rfl) ?_
    refine lv_iconst (v := 0) C.1 C.2.1 dX12_start__26 (by decide) ?_
    refine lv_aload_n C.1 C.2.1 dX12_start__27 rfl (lv_at hl 0 rfl) ?_
    refine m_get C w (k := 117) (j := 4) (v := .int (M.1 117 4)) flX12_364 (by decide) rfl rfl dX12_start__28 ?_
    refine m_i (y := nI (ts)) h1 ?_
    refine m_csi C w hl csX12_373 (As := [.int (nI (q5)), .int 0, .int (nI (ts))]) (rest := []) (c_X12_in l D b0 r M (nI (q5)) (0 : Int32) (nI (ts)) ) rfl rfl (Nat.le_of_ble_eq_true rfl) ⟨Nat.le_of_ble_eq_true rfl, Nat.le_of_ble_eq_true rfl⟩ ⟨Nat.zero_le _, Nat.zero_le _⟩ dX12_start__31 (fun v_7 M9 H locs e9 w => ?_)
    obtain ⟨ev_7, e9⟩ := e9
    rw [e9] at w
    subst ev_7
    refine lv_if_ne (tgt := 39) C.1 C.2.1 dX12_start__34 (by decide) (fun _ => ?_) (fun h_8 => absurd h_8 hTq5)
    refine lv_aload_n C.1 C.2.1 dX12_start__39 rfl (lv_at hl 0 rfl) ?_
    refine m_cvv C w hl cvX12_381 (k := 117) (by decide) rfl (q := (RX12, TX12, 58)) rfl rfl (As := []) (rest := []) (c_X12_takes l D b0 r M ts (by omega) h1) rfl rfl (Nat.le_of_ble_eq_true rfl) ⟨Nat.le_of_ble_eq_true rfl, Nat.le_of_ble_eq_true rfl⟩ ⟨Nat.zero_le _, Nat.zero_le _⟩ dX12_start__40 (fun M_9 H locs eM_9 w => ?_)
    refine lv_sipush (v := 352) C.1 C.2.1 dX12_start__43 (by decide) ?_
    refine lv_iload_n C.1 C.2.1 dX12_start__46 rfl (lv_at hl 1 rfl) ?_
    refine lv_imul C.1 C.2.1 dX12_start__47 ?_
    refine m_i (y := nI (352 * q1)) (pk_mul 352 q1) ?_
    refine lv_istore (lv' := [(6, .int (nI (352 * q1))), (0, .ref (r (117))), (1, .int (nI (q1))), (2, .int (v2)), (3, .int (nI (q3))), (4, .int (nI (q4))), (5, .int (nI (q5)))]) C.1 C.2.1 dX12_start__48 hl (by decide) rfl (fun ls hl => ?_)
    refine lv_iconst (v := 0) C.1 C.2.1 dX12_start__50 (by decide) ?_
    refine lv_istore (lv' := [(7, .int 0), (6, .int (nI (352 * q1))), (0, .ref (r (117))), (1, .int (nI (q1))), (2, .int (v2)), (3, .int (nI (q3))), (4, .int (nI (q4))), (5, .int (nI (q5)))]) C.1 C.2.1 dX12_start__51 hl (by decide) rfl (fun ls hl => ?_)
    have loop : ∀ (k t : Nat), t + k = 352 → ∀ (H : Heap) (locs : List Loc) (ls : Array Slot), mm_W D b0 r (f_X12_start__L53 q1 M_9 t) s H locs → lv_has ls 8 [(7, .int (nI (t))), (6, .int (nI (352 * q1))), (0, .ref (r (117))), (1, .int (nI (q1))), (2, .int (v2)), (3, .int (nI (q3))), (4, .int (nI (q4))), (5, .int (nI (q5)))] → W p l e (mm_rm 5 119) s m args below meth c H locs 0 0 (MQ below (va_Qi (fun v M' => (v, M') = f_X12_start_ v1 v2 v3 v4 v5 ts M) (mm_U D b0 r) (fun q => b0 ≤ q)) args s 0 0 (fun q => b0 ≤ q)) (F0 m 53 ls []) := by
      intro k
      induction k with
      | zero =>
        intro t ht H locs ls w hl
        obtain rfl : 352 = t := by omega
        obtain ⟨M_10, eM_10⟩ : ∃ zz, zz = f_X12_start__L53 q1 M_9 352 := ⟨_, rfl⟩
        rw [← eM_10] at w
        refine lv_iload C.1 C.2.1 dX12_start__53 (lv_at hl 0 rfl) ?_
        refine lv_sipush (v := 352) C.1 C.2.1 dX12_start__55 (by decide) ?_
        refine m_icmp_ge (tgt := 78) (a := 352) (b := 352) C (by omega) (by omega) dX12_start__58 (by decide) (fun _ => ?_) (fun h_11 => absurd h_11 (by omega))
        refine lv_aload_n C.1 C.2.1 dX12_start__78 rfl (lv_at hl 2 rfl) ?_
        refine m_get C w (k := 117) (j := 44) (v := .ref (r (159))) flX12_207 (by decide) rfl rfl dX12_start__79 ?_
        refine lv_iload_n C.1 C.2.1 dX12_start__82 rfl (lv_at hl 3 rfl) ?_
        refine lv_iconst (v := 1) C.1 C.2.1 dX12_start__83 (by decide) ?_
        refine m_zast C w (k := 159) (i := q1) (n := 4) (x := (1 : Int32)) (by decide) rfl (by omega) (by decide) (by decide) dX12_start__84 (fun H locs w => ?_)
        obtain ⟨M_12, eM_12⟩ : ∃ zz, zz = mm_w M_10 159 q1 (1 : Int32) := ⟨_, rfl⟩
        rw [← eM_12] at w
        refine lv_aload_n C.1 C.2.1 dX12_start__85 rfl (lv_at hl 2 rfl) ?_
        refine m_get C w (k := 117) (j := 45) (v := .ref (r (160))) flX12_211 (by decide) rfl rfl dX12_start__86 ?_
        refine lv_iload_n C.1 C.2.1 dX12_start__89 rfl (lv_at hl 3 rfl) ?_
        refine lv_iload_n C.1 C.2.1 dX12_start__90 rfl (lv_at hl 4 rfl) ?_
        refine m_zast C w (k := 160) (i := q1) (n := 4) (x := (v2)) (by decide) rfl (by omega) (by decide) hb dX12_start__91 (fun H locs w => ?_)
        obtain ⟨M_13, eM_13⟩ : ∃ zz, zz = mm_w M_12 160 q1 (v2) := ⟨_, rfl⟩
        rw [← eM_13] at w
        refine lv_aload_n C.1 C.2.1 dX12_start__92 rfl (lv_at hl 2 rfl) ?_
        refine m_get C w (k := 117) (j := 46) (v := .ref (r (161))) flX12_214 (by decide) rfl rfl dX12_start__93 ?_
        refine lv_iload_n C.1 C.2.1 dX12_start__96 rfl (lv_at hl 3 rfl) ?_
        refine lv_iconst (v := 0) C.1 C.2.1 dX12_start__97 (by decide) ?_
        refine m_zast C w (k := 161) (i := q1) (n := 4) (x := (0 : Int32)) (by decide) rfl (by omega) (by decide) (by decide) dX12_start__98 (fun H locs w => ?_)
        obtain ⟨M_14, eM_14⟩ : ∃ zz, zz = mm_w M_13 161 q1 (0 : Int32) := ⟨_, rfl⟩
        rw [← eM_14] at w
        refine lv_aload_n C.1 C.2.1 dX12_start__99 rfl (lv_at hl 2 rfl) ?_
        refine m_get C w (k := 117) (j := 47) (v := .ref (r (162))) flX12_217 (by decide) rfl rfl dX12_start__100 ?_
        refine lv_iload_n C.1 C.2.1 dX12_start__103 rfl (lv_at hl 3 rfl) ?_
        refine lv_iconst (v := 0) C.1 C.2.1 dX12_start__104 (by decide) ?_
        refine m_zast C w (k := 162) (i := q1) (n := 4) (x := (0 : Int32)) (by decide) rfl (by omega) (by decide) (by decide) dX12_start__105 (fun H locs w => ?_)
        obtain ⟨M_15, eM_15⟩ : ∃ zz, zz = mm_w M_14 162 q1 (0 : Int32) := ⟨_, rfl⟩
        rw [← eM_15] at w
        refine lv_aload_n C.1 C.2.1 dX12_start__106 rfl (lv_at hl 2 rfl) ?_
        refine m_get C w (k := 117) (j := 48) (v := .ref (r (163))) flX12_220 (by decide) rfl rfl dX12_start__107 ?_
        refine lv_iload_n C.1 C.2.1 dX12_start__110 rfl (lv_at hl 3 rfl) ?_
        refine lv_iconst (v := 0) C.1 C.2.1 dX12_start__111 (by decide) ?_
        refine m_zast C w (k := 163) (i := q1) (n := 4) (x := (0 : Int32)) (by decide) rfl (by omega) (by decide) (by decide) dX12_start__112 (fun H locs w => ?_)
        obtain ⟨M_16, eM_16⟩ : ∃ zz, zz = mm_w M_15 163 q1 (0 : Int32) := ⟨_, rfl⟩
        rw [← eM_16] at w
        refine lv_aload_n C.1 C.2.1 dX12_start__113 rfl (lv_at hl 2 rfl) ?_
        refine m_get C w (k := 117) (j := 49) (v := .ref (r (164))) flX12_223 (by decide) rfl rfl dX12_start__114 ?_
        refine lv_iload_n C.1 C.2.1 dX12_start__117 rfl (lv_at hl 3 rfl) ?_
        refine lv_iconst (v := 0) C.1 C.2.1 dX12_start__118 (by decide) ?_
        refine m_iast C w (k := 164) (i := q1) (n := 4) (x := (0 : Int32)) (by decide) rfl (by omega) (by decide) dX12_start__119 (fun H locs w => ?_)
        obtain ⟨M_17, eM_17⟩ : ∃ zz, zz = mm_w M_16 164 q1 (0 : Int32) := ⟨_, rfl⟩
        rw [← eM_17] at w
        refine lv_aload_n C.1 C.2.1 dX12_start__120 rfl (lv_at hl 2 rfl) ?_
        refine m_get C w (k := 117) (j := 50) (v := .ref (r (165))) flX12_226 (by decide) rfl rfl dX12_start__121 ?_
        refine lv_iload_n C.1 C.2.1 dX12_start__124 rfl (lv_at hl 3 rfl) ?_
        refine lv_iconst (v := 0) C.1 C.2.1 dX12_start__125 (by decide) ?_
        refine m_iast C w (k := 165) (i := q1) (n := 4) (x := (0 : Int32)) (by decide) rfl (by omega) (by decide) dX12_start__126 (fun H locs w => ?_)
        obtain ⟨M_18, eM_18⟩ : ∃ zz, zz = mm_w M_17 165 q1 (0 : Int32) := ⟨_, rfl⟩
        rw [← eM_18] at w
        refine lv_aload_n C.1 C.2.1 dX12_start__127 rfl (lv_at hl 2 rfl) ?_
        refine m_get C w (k := 117) (j := 51) (v := .ref (r (166))) flX12_229 (by decide) rfl rfl dX12_start__128 ?_
        refine lv_iload_n C.1 C.2.1 dX12_start__131 rfl (lv_at hl 3 rfl) ?_
        refine lv_lconst (v := 0) C.1 C.2.1 dX12_start__132 (by decide) ?_
        refine m_last C w (k := 166) (i := q1) (n := 4) (x := (0)) (by decide) rfl (by omega) (by decide) dX12_start__133 (fun H locs w => ?_)
        obtain ⟨M_19, eM_19⟩ : ∃ zz, zz = mm_wl M_18 166 q1 (0) := ⟨_, rfl⟩
        rw [← eM_19] at w
        refine lv_aload_n C.1 C.2.1 dX12_start__134 rfl (lv_at hl 2 rfl) ?_
        refine m_get C w (k := 117) (j := 52) (v := .ref (r (167))) flX12_232 (by decide) rfl rfl dX12_start__135 ?_
        refine lv_iload_n C.1 C.2.1 dX12_start__138 rfl (lv_at hl 3 rfl) ?_
        refine lv_lconst (v := 0) C.1 C.2.1 dX12_start__139 (by decide) ?_
        refine m_last C w (k := 167) (i := q1) (n := 4) (x := (0)) (by decide) rfl (by omega) (by decide) dX12_start__140 (fun H locs w => ?_)
        obtain ⟨M_20, eM_20⟩ : ∃ zz, zz = mm_wl M_19 167 q1 (0) := ⟨_, rfl⟩
        rw [← eM_20] at w
        refine lv_aload_n C.1 C.2.1 dX12_start__141 rfl (lv_at hl 2 rfl) ?_
        refine m_get C w (k := 117) (j := 53) (v := .ref (r (168))) flX12_235 (by decide) rfl rfl dX12_start__142 ?_
        refine lv_iload_n C.1 C.2.1 dX12_start__145 rfl (lv_at hl 3 rfl) ?_
        refine lv_lconst (v := 0) C.1 C.2.1 dX12_start__146 (by decide) ?_
        refine m_last C w (k := 168) (i := q1) (n := 4) (x := (0)) (by decide) rfl (by omega) (by decide) dX12_start__147 (fun H locs w => ?_)
        obtain ⟨M_21, eM_21⟩ : ∃ zz, zz = mm_wl M_20 168 q1 (0) := ⟨_, rfl⟩
        rw [← eM_21] at w
        refine lv_iconst (v := 0) C.1 C.2.1 dX12_start__148 (by decide) ?_
        refine lv_istore (lv' := [(7, .int 0), (6, .int (nI (352 * q1))), (0, .ref (r (117))), (1, .int (nI (q1))), (2, .int (v2)), (3, .int (nI (q3))), (4, .int (nI (q4))), (5, .int (nI (q5)))]) C.1 C.2.1 dX12_start__149 hl (by decide) rfl (fun ls hl => ?_)
        have loop : ∀ (k t : Nat), t + k = 32 → ∀ (H : Heap) (locs : List Loc) (ls : Array Slot), mm_W D b0 r (f_X12_start__L151 q1 M_21 t) s H locs → lv_has ls 8 [(7, .int (nI (t))), (6, .int (nI (352 * q1))), (0, .ref (r (117))), (1, .int (nI (q1))), (2, .int (v2)), (3, .int (nI (q3))), (4, .int (nI (q4))), (5, .int (nI (q5)))] → W p l e (mm_rm 5 119) s m args below meth c H locs 0 0 (MQ below (va_Qi (fun v M' => (v, M') = f_X12_start_ v1 v2 v3 v4 v5 ts M) (mm_U D b0 r) (fun q => b0 ≤ q)) args s 0 0 (fun q => b0 ≤ q)) (F0 m 151 ls []) := by
          intro k
          induction k with
          | zero =>
            intro t ht H locs ls w hl
            obtain rfl : 32 = t := by omega
            obtain ⟨M_22, eM_22⟩ : ∃ zz, zz = f_X12_start__L151 q1 M_21 32 := ⟨_, rfl⟩
            rw [← eM_22] at w
            refine lv_iload C.1 C.2.1 dX12_start__151 (lv_at hl 0 rfl) ?_
            refine lv_bipush (v := 32) C.1 C.2.1 dX12_start__153 (by decide) ?_
            refine m_icmp_ge (tgt := 207) (a := 32) (b := 32) C (by omega) (by omega) dX12_start__155 (by decide) (fun _ => ?_) (fun h_23 => absurd h_23 (by omega))
            refine lv_aload_n C.1 C.2.1 dX12_start__207 rfl (lv_at hl 2 rfl) ?_
            refine lv_iload_n C.1 C.2.1 dX12_start__208 rfl (lv_at hl 3 rfl) ?_
            refine lv_aload_n C.1 C.2.1 dX12_start__209 rfl (lv_at hl 2 rfl) ?_
            refine m_get C w (k := 117) (j := 1) (v := .ref (r (119))) flX12_13 (by decide) rfl rfl dX12_start__210 ?_
            refine lv_iconst (v := 0) C.1 C.2.1 dX12_start__213 (by decide) ?_
            refine lv_iload C.1 C.2.1 dX12_start__214 (lv_at hl 7 rfl) ?_
            refine m_cvv C w hl cvX12_410 (k := 117) (by decide) rfl (q := (RX12, TX12, 58)) rfl rfl (As := [.int (nI (q1)), .ref (r (119)), .int 0, .int (nI (q5))]) (rest := []) (c_X12_mixHash l D b0 r M_22 q1 119 0 q5 (by omega) (by decide) rfl (by decide) (by omega) (by omega) (by omega)) rfl rfl (Nat.le_of_ble_eq_true rfl) ⟨Nat.le_of_ble_eq_true rfl, Nat.le_of_ble_eq_true rfl⟩ ⟨Nat.zero_le _, Nat.zero_le _⟩ dX12_start__216 (fun M_24 H locs eM_24 w => ?_)
            refine lv_aload_n C.1 C.2.1 dX12_start__219 rfl (lv_at hl 2 rfl) ?_
            refine m_get C w (k := 117) (j := 6) (v := .ref (r (122))) flX12_22 (by decide) rfl rfl dX12_start__220 ?_
            refine lv_bipush (v := 32) C.1 C.2.1 dX12_start__223 (by decide) ?_
            refine lv_iload_n C.1 C.2.1 dX12_start__225 rfl (lv_at hl 5 rfl) ?_
            refine lv_imul C.1 C.2.1 dX12_start__226 ?_
            refine m_i (y := nI (32 * q3)) (pk_mul 32 q3) ?_
            refine lv_aload_n C.1 C.2.1 dX12_start__227 rfl (lv_at hl 2 rfl) ?_
            refine m_get C w (k := 117) (j := 42) (v := .ref (r (157))) flX12_201 (by decide) rfl rfl dX12_start__228 ?_
            refine lv_iload C.1 C.2.1 dX12_start__231 (lv_at hl 1 rfl) ?_
            refine lv_sipush (v := 160) C.1 C.2.1 dX12_start__233 (by decide) ?_
            refine lv_iadd C.1 C.2.1 dX12_start__236 ?_
            refine m_i (y := nI (352 * q1 + 160)) (nI_add (352 * q1) 160) ?_
            refine lv_bipush (v := 32) C.1 C.2.1 dX12_start__237 (by decide) ?_
            refine m_csv C w hl csX12_265 (As := [.ref (r (122)), .int (nI (32 * q3)), .ref (r (157)), .int (nI (352 * q1 + 160)), .int 32]) (rest := []) (c_X12_copy l D b0 r M_24 122 (32 * q3) 157 (352 * q1 + 160) 32 (by decide) rfl (by decide) (by omega) (by decide) rfl (by decide) (by omega) (by omega) (by omega)) rfl rfl (Nat.le_of_ble_eq_true rfl) ⟨Nat.le_of_ble_eq_true rfl, Nat.le_of_ble_eq_true rfl⟩ ⟨Nat.zero_le _, Nat.zero_le _⟩ dX12_start__239 (fun M_25 H locs eM_25 w => ?_)
            refine lv_aload_n C.1 C.2.1 dX12_start__242 rfl (lv_at hl 2 rfl) ?_
            refine m_get C w (k := 117) (j := 6) (v := .ref (r (122))) flX12_22 (by decide) rfl rfl dX12_start__243 ?_
            refine lv_bipush (v := 32) C.1 C.2.1 dX12_start__246 (by decide) ?_
            refine lv_iload C.1 C.2.1 dX12_start__248 (lv_at hl 6 rfl) ?_
            refine lv_imul C.1 C.2.1 dX12_start__250 ?_
            refine m_i (y := nI (32 * q4)) (pk_mul 32 q4) ?_
            refine lv_aload_n C.1 C.2.1 dX12_start__251 rfl (lv_at hl 2 rfl) ?_
            refine m_get C w (k := 117) (j := 42) (v := .ref (r (157))) flX12_201 (by decide) rfl rfl dX12_start__252 ?_
            refine lv_iload C.1 C.2.1 dX12_start__255 (lv_at hl 1 rfl) ?_
            refine lv_sipush (v := 224) C.1 C.2.1 dX12_start__257 (by decide) ?_
            refine lv_iadd C.1 C.2.1 dX12_start__260 ?_
            refine m_i (y := nI (352 * q1 + 224)) (nI_add (352 * q1) 224) ?_
            refine lv_bipush (v := 32) C.1 C.2.1 dX12_start__261 (by decide) ?_
            refine m_csv C w hl csX12_265 (As := [.ref (r (122)), .int (nI (32 * q4)), .ref (r (157)), .int (nI (352 * q1 + 224)), .int 32]) (rest := []) (c_X12_copy l D b0 r M_25 122 (32 * q4) 157 (352 * q1 + 224) 32 (by decide) rfl (by decide) (by omega) (by decide) rfl (by decide) (by omega) (by omega) (by omega)) rfl rfl (Nat.le_of_ble_eq_true rfl) ⟨Nat.le_of_ble_eq_true rfl, Nat.le_of_ble_eq_true rfl⟩ ⟨Nat.zero_le _, Nat.zero_le _⟩ dX12_start__263 (fun M_26 H locs eM_26 w => ?_)
            refine lv_aload_n C.1 C.2.1 dX12_start__266 rfl (lv_at hl 2 rfl) ?_
            refine lv_aload_n C.1 C.2.1 dX12_start__267 rfl (lv_at hl 2 rfl) ?_
            refine m_get C w (k := 117) (j := 42) (v := .ref (r (157))) flX12_201 (by decide) rfl rfl dX12_start__268 ?_
            refine lv_iload C.1 C.2.1 dX12_start__271 (lv_at hl 1 rfl) ?_
            refine lv_sipush (v := 160) C.1 C.2.1 dX12_start__273 (by decide) ?_
            refine lv_iadd C.1 C.2.1 dX12_start__276 ?_
            refine m_i (y := nI (352 * q1 + 160)) (nI_add (352 * q1) 160) ?_
            refine m_cvv C w hl cvX12_384 (k := 117) (by decide) rfl (q := (RX12, TX12, 58)) rfl rfl (As := [.ref (r (157)), .int (nI (352 * q1 + 160))]) (rest := []) (c_X12_curvedOwn l D b0 r M_26 157 (352 * q1 + 160) (by decide) rfl (by decide) (by omega) (by omega)) rfl rfl (Nat.le_of_ble_eq_true rfl) ⟨Nat.le_of_ble_eq_true rfl, Nat.le_of_ble_eq_true rfl⟩ ⟨Nat.zero_le _, Nat.zero_le _⟩ dX12_start__277 (fun M_27 H locs eM_27 w => ?_)
            refine lv_aload_n C.1 C.2.1 dX12_start__280 rfl (lv_at hl 2 rfl) ?_
            refine m_get C w (k := 117) (j := 30) (v := .ref (r (145))) flX12_165 (by decide) rfl rfl dX12_start__281 ?_
            refine lv_iconst (v := 0) C.1 C.2.1 dX12_start__284 (by decide) ?_
            refine lv_aload_n C.1 C.2.1 dX12_start__285 rfl (lv_at hl 2 rfl) ?_
            refine m_get C w (k := 117) (j := 42) (v := .ref (r (157))) flX12_201 (by decide) rfl rfl dX12_start__286 ?_
            refine lv_iload C.1 C.2.1 dX12_start__289 (lv_at hl 1 rfl) ?_
            refine lv_sipush (v := 192) C.1 C.2.1 dX12_start__291 (by decide) ?_
            refine lv_iadd C.1 C.2.1 dX12_start__294 ?_
            refine m_i (y := nI (352 * q1 + 192)) (nI_add (352 * q1) 192) ?_
            refine lv_bipush (v := 32) C.1 C.2.1 dX12_start__295 (by decide) ?_
            refine m_csv C w hl csX12_265 (As := [.ref (r (145)), .int 0, .ref (r (157)), .int (nI (352 * q1 + 192)), .int 32]) (rest := []) (c_X12_copy l D b0 r M_27 145 0 157 (352 * q1 + 192) 32 (by decide) rfl (by decide) (by omega) (by decide) rfl (by decide) (by omega) (by omega) (by omega)) rfl rfl (Nat.le_of_ble_eq_true rfl) ⟨Nat.le_of_ble_eq_true rfl, Nat.le_of_ble_eq_true rfl⟩ ⟨Nat.zero_le _, Nat.zero_le _⟩ dX12_start__297 (fun M_28 H locs eM_28 w => ?_)
            refine lv_aload_n C.1 C.2.1 dX12_start__300 rfl (lv_at hl 2 rfl) ?_
            refine lv_aload_n C.1 C.2.1 dX12_start__301 rfl (lv_at hl 2 rfl) ?_
            refine m_get C w (k := 117) (j := 42) (v := .ref (r (157))) flX12_201 (by decide) rfl rfl dX12_start__302 ?_
            refine lv_iload C.1 C.2.1 dX12_start__305 (lv_at hl 1 rfl) ?_
            refine lv_sipush (v := 224) C.1 C.2.1 dX12_start__307 (by decide) ?_
            refine lv_iadd C.1 C.2.1 dX12_start__310 ?_
            refine m_i (y := nI (352 * q1 + 224)) (nI_add (352 * q1) 224) ?_
            refine m_cvv C w hl cvX12_384 (k := 117) (by decide) rfl (q := (RX12, TX12, 58)) rfl rfl (As := [.ref (r (157)), .int (nI (352 * q1 + 224))]) (rest := []) (c_X12_curvedOwn l D b0 r M_28 157 (352 * q1 + 224) (by decide) rfl (by decide) (by omega) (by omega)) rfl rfl (Nat.le_of_ble_eq_true rfl) ⟨Nat.le_of_ble_eq_true rfl, Nat.le_of_ble_eq_true rfl⟩ ⟨Nat.zero_le _, Nat.zero_le _⟩ dX12_start__311 (fun M_29 H locs eM_29 w => ?_)
            refine lv_aload_n C.1 C.2.1 dX12_start__314 rfl (lv_at hl 2 rfl) ?_
            refine m_get C w (k := 117) (j := 30) (v := .ref (r (145))) flX12_165 (by decide) rfl rfl dX12_start__315 ?_
            refine lv_iconst (v := 0) C.1 C.2.1 dX12_start__318 (by decide) ?_
            refine lv_aload_n C.1 C.2.1 dX12_start__319 rfl (lv_at hl 2 rfl) ?_
            refine m_get C w (k := 117) (j := 42) (v := .ref (r (157))) flX12_201 (by decide) rfl rfl dX12_start__320 ?_
            refine lv_iload C.1 C.2.1 dX12_start__323 (lv_at hl 1 rfl) ?_
            refine lv_sipush (v := 256) C.1 C.2.1 dX12_start__325 (by decide) ?_
            refine lv_iadd C.1 C.2.1 dX12_start__328 ?_
            refine m_i (y := nI (352 * q1 + 256)) (nI_add (352 * q1) 256) ?_
            refine lv_bipush (v := 32) C.1 C.2.1 dX12_start__329 (by decide) ?_
            refine m_csv C w hl csX12_265 (As := [.ref (r (145)), .int 0, .ref (r (157)), .int (nI (352 * q1 + 256)), .int 32]) (rest := []) (c_X12_copy l D b0 r M_29 145 0 157 (352 * q1 + 256) 32 (by decide) rfl (by decide) (by omega) (by decide) rfl (by decide) (by omega) (by omega) (by omega)) rfl rfl (Nat.le_of_ble_eq_true rfl) ⟨Nat.le_of_ble_eq_true rfl, Nat.le_of_ble_eq_true rfl⟩ ⟨Nat.zero_le _, Nat.zero_le _⟩ dX12_start__331 (fun M_30 H locs eM_30 w => ?_)
            refine lv_iconst (v := 1) C.1 C.2.1 dX12_start__334 (by decide) ?_
            exact m_zret C w (by decide) (by subst eq1 eq3 eq4 eq5 eM_9 eM_10 eM_12 eM_13 eM_14 eM_15 eM_16 eM_17 eM_18 eM_19 eM_20 eM_21 eM_22 eM_24 eM_25 eM_26 eM_27 eM_28 eM_29 eM_30; exact Eq.symm (((if_pos hS).trans rfl))) dX12_start__335
          | succ k ih =>
            intro t ht H locs ls w hl
            obtain ⟨M_31, eM_31⟩ : ∃ zz, zz = f_X12_start__L151 q1 M_21 t := ⟨_, rfl⟩
            rw [← eM_31] at w
            refine lv_iload C.1 C.2.1 dX12_start__151 (lv_at hl 0 rfl) ?_
            refine lv_bipush (v := 32) C.1 C.2.1 dX12_start__153 (by decide) ?_
            refine m_icmp_ge (tgt := 207) (a := t) (b := 32) C (by omega) (by omega) dX12_start__155 (by decide) (fun h_32 => absurd h_32 (by omega)) (fun _ => ?_)
            refine lv_aload_n C.1 C.2.1 dX12_start__158 rfl (lv_at hl 2 rfl) ?_
            refine m_get C w (k := 117) (j := 42) (v := .ref (r (157))) flX12_201 (by decide) rfl rfl dX12_start__159 ?_
            refine lv_iload C.1 C.2.1 dX12_start__162 (lv_at hl 1 rfl) ?_
            refine lv_iconst (v := 0) C.1 C.2.1 dX12_start__164 (by decide) ?_
            refine lv_iadd C.1 C.2.1 dX12_start__165 ?_
            refine m_i (y := nI (352 * q1)) (nI_add (352 * q1) 0) ?_
            refine lv_iload C.1 C.2.1 dX12_start__166 (lv_at hl 0 rfl) ?_
            refine lv_iadd C.1 C.2.1 dX12_start__168 ?_
            refine m_i (y := nI (352 * q1 + t)) (nI_add (352 * q1) t) ?_
            refine m_ldcwS C.1 C.2.1 C.2.2.2.1 C.2.2.2.2.2.2.2.2.2.2.2.2.2 dX12_start__169 ?_
            refine lv_iload C.1 C.2.1 dX12_start__172 (lv_at hl 0 rfl) ?_
            refine m_charAt C w hl cvX12_404 (i := t) (by omega) (Nat.le_of_ble_eq_true rfl) ⟨Nat.le_of_ble_eq_true rfl, Nat.le_of_ble_eq_true rfl⟩ ⟨Nat.zero_le _, Nat.zero_le _⟩ dX12_start__174 (fun H locs w => ?_)
            refine lv_i2b (v := mm_b (mm_ch t)) C.1 C.2.1 dX12_start__177 rfl ?_
            refine m_bast C w (k := 157) (i := 352 * q1 + t) (n := 1408) (x := (mm_b (mm_ch t))) (by decide) rfl (by omega) (by decide) (mm_bb _) dX12_start__178 (fun H locs w => ?_)
            obtain ⟨M_33, eM_33⟩ : ∃ zz, zz = mm_w M_31 157 (352 * q1 + t) (mm_b (mm_ch t)) := ⟨_, rfl⟩
            rw [← eM_33] at w
            refine lv_aload_n C.1 C.2.1 dX12_start__179 rfl (lv_at hl 2 rfl) ?_
            refine m_get C w (k := 117) (j := 42) (v := .ref (r (157))) flX12_201 (by decide) rfl rfl dX12_start__180 ?_
            refine lv_iload C.1 C.2.1 dX12_start__183 (lv_at hl 1 rfl) ?_
            refine lv_bipush (v := 32) C.1 C.2.1 dX12_start__185 (by decide) ?_
            refine lv_iadd C.1 C.2.1 dX12_start__187 ?_
            refine m_i (y := nI (352 * q1 + 32)) (nI_add (352 * q1) 32) ?_
            refine lv_iload C.1 C.2.1 dX12_start__188 (lv_at hl 0 rfl) ?_
            refine lv_iadd C.1 C.2.1 dX12_start__190 ?_
            refine m_i (y := nI (352 * q1 + 32 + t)) (nI_add (352 * q1 + 32) t) ?_
            refine m_ldcwS C.1 C.2.1 C.2.2.2.1 C.2.2.2.2.2.2.2.2.2.2.2.2.2 dX12_start__191 ?_
            refine lv_iload C.1 C.2.1 dX12_start__194 (lv_at hl 0 rfl) ?_
            refine m_charAt C w hl cvX12_404 (i := t) (by omega) (Nat.le_of_ble_eq_true rfl) ⟨Nat.le_of_ble_eq_true rfl, Nat.le_of_ble_eq_true rfl⟩ ⟨Nat.zero_le _, Nat.zero_le _⟩ dX12_start__196 (fun H locs w => ?_)
            refine lv_i2b (v := mm_b (mm_ch t)) C.1 C.2.1 dX12_start__199 rfl ?_
            refine m_bast C w (k := 157) (i := 352 * q1 + 32 + t) (n := 1408) (x := (mm_b (mm_ch t))) (by decide) rfl (by omega) (by decide) (mm_bb _) dX12_start__200 (fun H locs w => ?_)
            obtain ⟨M_34, eM_34⟩ : ∃ zz, zz = mm_w M_33 157 (352 * q1 + 32 + t) (mm_b (mm_ch t)) := ⟨_, rfl⟩
            rw [← eM_34] at w
            refine lv_iinc (v := (nI (t + 1))) (lv' := [(7, .int (nI (t + 1))), (6, .int (nI (352 * q1))), (0, .ref (r (117))), (1, .int (nI (q1))), (2, .int (v2)), (3, .int (nI (q3))), (4, .int (nI (q4))), (5, .int (nI (q5)))]) C.1 C.2.1 dX12_start__201 hl (k := 0) rfl (nI_add t 1) (by decide) rfl (fun ls hl => ?_)
            refine lv_goto (tgt := 151) C.1 C.2.1 dX12_start__204 (by decide) ?_
            have h9 : lv_has ls 8 [(7, .int (nI (t + 1))), (6, .int (nI (352 * q1))), (0, .ref (r (117))), (1, .int (nI (q1))), (2, .int (v2)), (3, .int (nI (q3))), (4, .int (nI (q4))), (5, .int (nI (q5)))] := lv_sub hl [0, 1, 2, 3, 4, 5, 6, 7] rfl
            have hlZ : lv_has ls 8 [(7, .int (nI (t + 1))), (6, .int (nI (352 * q1))), (0, .ref (r (117))), (1, .int (nI (q1))), (2, .int (v2)), (3, .int (nI (q3))), (4, .int (nI (q4))), (5, .int (nI (q5)))] := h9
            have wZ := w
            subst eM_31 eM_33 eM_34
            refine ih (t + 1) (by omega) _ _ _ (wZ) ?_
            exact hlZ
        exact loop 32 0 (by omega) _ _ ls w hl
      | succ k ih =>
        intro t ht H locs ls w hl
        obtain ⟨M_35, eM_35⟩ : ∃ zz, zz = f_X12_start__L53 q1 M_9 t := ⟨_, rfl⟩
        rw [← eM_35] at w
        refine lv_iload C.1 C.2.1 dX12_start__53 (lv_at hl 0 rfl) ?_
        refine lv_sipush (v := 352) C.1 C.2.1 dX12_start__55 (by decide) ?_
        refine m_icmp_ge (tgt := 78) (a := t) (b := 352) C (by omega) (by omega) dX12_start__58 (by decide) (fun h_36 => absurd h_36 (by omega)) (fun _ => ?_)
        refine lv_aload_n C.1 C.2.1 dX12_start__61 rfl (lv_at hl 2 rfl) ?_
        refine m_get C w (k := 117) (j := 42) (v := .ref (r (157))) flX12_201 (by decide) rfl rfl dX12_start__62 ?_
        refine lv_iload C.1 C.2.1 dX12_start__65 (lv_at hl 1 rfl) ?_
        refine lv_iload C.1 C.2.1 dX12_start__67 (lv_at hl 0 rfl) ?_
        refine lv_iadd C.1 C.2.1 dX12_start__69 ?_
        refine m_i (y := nI (352 * q1 + t)) (nI_add (352 * q1) t) ?_
        refine lv_iconst (v := 0) C.1 C.2.1 dX12_start__70 (by decide) ?_
        refine m_bast C w (k := 157) (i := 352 * q1 + t) (n := 1408) (x := (0 : Int32)) (by decide) rfl (by omega) (by decide) (by decide) dX12_start__71 (fun H locs w => ?_)
        obtain ⟨M_37, eM_37⟩ : ∃ zz, zz = mm_w M_35 157 (352 * q1 + t) (0 : Int32) := ⟨_, rfl⟩
        rw [← eM_37] at w
        refine lv_iinc (v := (nI (t + 1))) (lv' := [(7, .int (nI (t + 1))), (6, .int (nI (352 * q1))), (0, .ref (r (117))), (1, .int (nI (q1))), (2, .int (v2)), (3, .int (nI (q3))), (4, .int (nI (q4))), (5, .int (nI (q5)))]) C.1 C.2.1 dX12_start__72 hl (k := 0) rfl (nI_add t 1) (by decide) rfl (fun ls hl => ?_)
        refine lv_goto (tgt := 53) C.1 C.2.1 dX12_start__75 (by decide) ?_
        have h9 : lv_has ls 8 [(7, .int (nI (t + 1))), (6, .int (nI (352 * q1))), (0, .ref (r (117))), (1, .int (nI (q1))), (2, .int (v2)), (3, .int (nI (q3))), (4, .int (nI (q4))), (5, .int (nI (q5)))] := lv_sub hl [0, 1, 2, 3, 4, 5, 6, 7] rfl
        have hlZ : lv_has ls 8 [(7, .int (nI (t + 1))), (6, .int (nI (352 * q1))), (0, .ref (r (117))), (1, .int (nI (q1))), (2, .int (v2)), (3, .int (nI (q3))), (4, .int (nI (q4))), (5, .int (nI (q5)))] := h9
        have wZ := w
        subst eM_35 eM_37
        refine ih (t + 1) (by omega) _ _ _ (wZ) ?_
        exact hlZ
    exact loop 352 0 (by omega) _ _ ls w hl
  · refine lv_iload_n C.1 C.2.1 dX12_start__0 rfl (lv_at hl 1 rfl) ?_
    refine lv_iconst (v := 0) C.1 C.2.1 dX12_start__1 (by decide) ?_
    refine lv_iconst (v := 3) C.1 C.2.1 dX12_start__2 (by decide) ?_
    refine m_csi C w hl csX12_373 (As := [.int (v1), .int 0, .int 3]) (rest := []) (c_X12_in l D b0 r M (v1) (0 : Int32) (3 : Int32) ) rfl rfl (Nat.le_of_ble_eq_true rfl) ⟨Nat.le_of_ble_eq_true rfl, Nat.le_of_ble_eq_true rfl⟩ ⟨Nat.zero_le _, Nat.zero_le _⟩ dX12_start__3 (fun v_38 M9 H locs e9 w => ?_)
    obtain ⟨ev_38, e9⟩ := e9
    rw [e9] at w
    subst ev_38
    refine lv_if_eq (tgt := 37) C.1 C.2.1 dX12_start__6 (by decide) (fun h_39 => ?_) (fun h_39 => ?_)
    · refine lv_iconst (v := 0) C.1 C.2.1 dX12_start__37 (by decide) ?_
      exact m_zret C w (by decide) (by exact Eq.symm (((if_neg hS).trans ((if_pos h_39).trans rfl)))) dX12_start__38
    · refine lv_iload_n C.1 C.2.1 dX12_start__9 rfl (lv_at hl 3 rfl) ?_
      refine m_csi C w hl csX12_377 (As := [.int (v3)]) (rest := []) (c_X12_isKey l D b0 r M (v3) ) rfl rfl (Nat.le_of_ble_eq_true rfl) ⟨Nat.le_of_ble_eq_true rfl, Nat.le_of_ble_eq_true rfl⟩ ⟨Nat.zero_le _, Nat.zero_le _⟩ dX12_start__10 (fun v_40 M9 H locs e9 w => ?_)
      obtain ⟨ev_40, e9⟩ := e9
      rw [e9] at w
      subst ev_40
      refine lv_if_eq (tgt := 37) C.1 C.2.1 dX12_start__13 (by decide) (fun h_41 => ?_) (fun h_41 => ?_)
      · refine lv_iconst (v := 0) C.1 C.2.1 dX12_start__37 (by decide) ?_
        exact m_zret C w (by decide) (by exact Eq.symm (((if_neg hS).trans ((if_neg h_39).trans ((if_pos h_41).trans rfl))))) dX12_start__38
      · refine lv_iload C.1 C.2.1 dX12_start__16 (lv_at hl 4 rfl) ?_
        refine m_csi C w hl csX12_377 (As := [.int (v4)]) (rest := []) (c_X12_isKey l D b0 r M (v4) ) rfl rfl (Nat.le_of_ble_eq_true rfl) ⟨Nat.le_of_ble_eq_true rfl, Nat.le_of_ble_eq_true rfl⟩ ⟨Nat.zero_le _, Nat.zero_le _⟩ dX12_start__18 (fun v_42 M9 H locs e9 w => ?_)
        obtain ⟨ev_42, e9⟩ := e9
        rw [e9] at w
        subst ev_42
        refine lv_if_eq (tgt := 37) C.1 C.2.1 dX12_start__21 (by decide) (fun h_43 => ?_) (fun h_43 => ?_)
        · refine lv_iconst (v := 0) C.1 C.2.1 dX12_start__37 (by decide) ?_
          exact m_zret C w (by decide) (by exact Eq.symm (((if_neg hS).trans ((if_neg h_39).trans ((if_neg h_41).trans ((if_pos h_43).trans rfl)))))) dX12_start__38
        · refine lv_iload C.1 C.2.1 dX12_start__24 (lv_at hl 5 rfl) ?_
          refine lv_iconst (v := 0) C.1 C.2.1 dX12_start__26 (by decide) ?_
          refine lv_aload_n C.1 C.2.1 dX12_start__27 rfl (lv_at hl 0 rfl) ?_
          refine m_get C w (k := 117) (j := 4) (v := .int (M.1 117 4)) flX12_364 (by decide) rfl rfl dX12_start__28 ?_
          refine m_i (y := nI (ts)) h1 ?_
          refine m_csi C w hl csX12_373 (As := [.int (v5), .int 0, .int (nI (ts))]) (rest := []) (c_X12_in l D b0 r M (v5) (0 : Int32) (nI (ts)) ) rfl rfl (Nat.le_of_ble_eq_true rfl) ⟨Nat.le_of_ble_eq_true rfl, Nat.le_of_ble_eq_true rfl⟩ ⟨Nat.zero_le _, Nat.zero_le _⟩ dX12_start__31 (fun v_44 M9 H locs e9 w => ?_)
          obtain ⟨ev_44, e9⟩ := e9
          rw [e9] at w
          subst ev_44
          refine lv_if_ne (tgt := 39) C.1 C.2.1 dX12_start__34 (by decide) (fun h_45 => absurd h_45 (fun q => hS ⟨h_39, h_41, h_43, q⟩)) (fun _ => ?_)
          refine lv_iconst (v := 0) C.1 C.2.1 dX12_start__37 (by decide) ?_
          exact m_zret C w (by decide) (by exact Eq.symm (((if_neg hS).trans ((if_neg h_39).trans ((if_neg h_41).trans ((if_neg h_43).trans rfl)))))) dX12_start__38

theorem g_inT {v : Int32} {ts : Nat} (hts : ts ≤ 1000) (h : ¬ f_X12_in v 0 900 = 0) (h2 : v ≤ nI ts) : v = nI v.toNatClampNeg ∧ v.toNatClampNeg ≤ ts ∧ v.toNatClampNeg ≤ 900 := by
  obtain ⟨a, b⟩ := g_inN (n := 900) (by decide) h
  generalize v.toNatClampNeg = q at *
  subst a
  exact ⟨rfl, (nI_leI (by omega) (by omega)).mp h2, b⟩
theorem r_X12_sealsInto (p1 k1 p2 p3 p4 : Nat) (M : mm_M) : (f_X12_sealsInto p1 k1 p2 p3 p4 M).1 = nI (if M.1 161 p1 = 0 then p4 + p3 else p4 + (p3 + 16)) := by
  unfold f_X12_sealsInto
  split <;> rfl

def f_X12_write_B1 (q1 : Nat) (q2 : Nat) (M_6 : mm_M) : Int32 × mm_M :=
  if (M_6.1 164 q1) ≤ (0 : Int32) then (let v_13 := (f_X12_sealsInto q1 119 0 q2 0 M_6).1
  let M_12 := (f_X12_sealsInto q1 119 0 q2 0 M_6).2
  let u_14 := (if M_6.1 161 q1 = 0 then 0 + q2 else 0 + (q2 + 16))
  let M_15 := f_X12_goesOn q1 M_12
  let v_17 := (f_X12_tells 120 u_14 M_15).1
  let M_16 := (f_X12_tells 120 u_14 M_15).2
  ((v_17), M_16)) else (let v_19 := (f_X12_sealsInto q1 157 (352 * q1 + 192) 32 0 M_6).1
  let M_18 := (f_X12_sealsInto q1 157 (352 * q1 + 192) 32 0 M_6).2
  let u_20 := (if M_6.1 161 q1 = 0 then 0 + 32 else 0 + (32 + 16))
  let M_21 := f_X12_agrees q1 160 96 M_18
  let v_23 := (f_X12_sealsInto q1 119 0 q2 u_20 M_21).1
  let M_22 := (f_X12_sealsInto q1 119 0 q2 u_20 M_21).2
  let u_24 := (if M_21.1 161 q1 = 0 then u_20 + q2 else u_20 + (q2 + 16))
  let M_25 := f_X12_goesOn q1 M_22
  let v_27 := (f_X12_tells 120 u_24 M_25).1
  let M_26 := (f_X12_tells 120 u_24 M_25).2
  ((v_27), M_26))
theorem w_f_X12_write_B1 (q1 : Nat) (q2 : Nat) (M_6 : mm_M) : mm_fr2 [120, 117, 128, 129, 126, 127, 125, 157, 147, 149, 148, 155, 151, 150, 152, 153, 156, 154, 166, 164, 130, 131, 169, 172, 170, 171, 121, 144, 132, 134, 133, 136, 140, 142, 135, 143, 139, 145, 141, 137, 138, 161] M_6 (f_X12_write_B1 q1 q2 M_6) := by
  unfold f_X12_write_B1
  exact (mm_fr_ite2 (fun _ => ((w_f_X12_tells _ _ _).m.on (by simp) ((w_f_X12_goesOn _ _).on (by simp) ((w_f_X12_sealsInto _ _ _ _ _ _).m.on (by simp) (mm_fr_refl _ _)))).b) (fun _ => ((w_f_X12_tells _ _ _).m.on (by simp) ((w_f_X12_goesOn _ _).on (by simp) ((w_f_X12_sealsInto _ _ _ _ _ _).m.on (by simp) ((w_f_X12_agrees _ _ _ _).on (by simp) ((w_f_X12_sealsInto _ _ _ _ _ _).m.on (by simp) (mm_fr_refl _ _)))))).b))
def f_X12_write_B2 (q1 : Nat) (q2 : Nat) (M_28 : mm_M) : Int32 × mm_M :=
  if (M_28.1 164 q1) ≤ (0 : Int32) then (let v_31 := (f_X12_sealsInto q1 119 0 q2 0 M_28).1
  let M_30 := (f_X12_sealsInto q1 119 0 q2 0 M_28).2
  let u_32 := (if M_28.1 161 q1 = 0 then 0 + q2 else 0 + (q2 + 16))
  let M_33 := f_X12_goesOn q1 M_30
  let v_35 := (f_X12_tells 120 u_32 M_33).1
  let M_34 := (f_X12_tells 120 u_32 M_33).2
  ((v_35), M_34)) else (let v_37 := (f_X12_sealsInto q1 157 (352 * q1 + 192) 32 0 M_28).1
  let M_36 := (f_X12_sealsInto q1 157 (352 * q1 + 192) 32 0 M_28).2
  let u_38 := (if M_28.1 161 q1 = 0 then 0 + 32 else 0 + (32 + 16))
  let M_39 := f_X12_agrees q1 160 96 M_36
  let v_41 := (f_X12_sealsInto q1 119 0 q2 u_38 M_39).1
  let M_40 := (f_X12_sealsInto q1 119 0 q2 u_38 M_39).2
  let u_42 := (if M_39.1 161 q1 = 0 then u_38 + q2 else u_38 + (q2 + 16))
  let M_43 := f_X12_goesOn q1 M_40
  let v_45 := (f_X12_tells 120 u_42 M_43).1
  let M_44 := (f_X12_tells 120 u_42 M_43).2
  ((v_45), M_44))
theorem w_f_X12_write_B2 (q1 : Nat) (q2 : Nat) (M_28 : mm_M) : mm_fr2 [120, 117, 128, 129, 126, 127, 125, 157, 147, 149, 148, 155, 151, 150, 152, 153, 156, 154, 166, 164, 130, 131, 169, 172, 170, 171, 121, 144, 132, 134, 133, 136, 140, 142, 135, 143, 139, 145, 141, 137, 138, 161] M_28 (f_X12_write_B2 q1 q2 M_28) := by
  unfold f_X12_write_B2
  exact (mm_fr_ite2 (fun _ => ((w_f_X12_tells _ _ _).m.on (by simp) ((w_f_X12_goesOn _ _).on (by simp) ((w_f_X12_sealsInto _ _ _ _ _ _).m.on (by simp) (mm_fr_refl _ _)))).b) (fun _ => ((w_f_X12_tells _ _ _).m.on (by simp) ((w_f_X12_goesOn _ _).on (by simp) ((w_f_X12_sealsInto _ _ _ _ _ _).m.on (by simp) ((w_f_X12_agrees _ _ _ _).on (by simp) ((w_f_X12_sealsInto _ _ _ _ _ _).m.on (by simp) (mm_fr_refl _ _)))))).b))
def f_X12_write_B3 (q1 : Nat) (q2 : Nat) (M_6 : mm_M) : Int32 × mm_M :=
  if ¬ (M_6.1 164 q1) = (1 : Int32) then (f_X12_write_B1 q1 q2 M_6) else (let M_28 := f_X12_agrees q1 224 96 M_6
  f_X12_write_B2 q1 q2 M_28)
theorem w_f_X12_write_B3 (q1 : Nat) (q2 : Nat) (M_6 : mm_M) : mm_fr2 [120, 117, 128, 129, 126, 127, 125, 157, 147, 149, 148, 155, 151, 150, 152, 153, 156, 154, 166, 164, 130, 131, 169, 172, 170, 171, 121, 144, 132, 134, 133, 136, 140, 142, 135, 143, 139, 145, 141, 137, 138, 161] M_6 (f_X12_write_B3 q1 q2 M_6) := by
  unfold f_X12_write_B3
  exact (mm_fr_ite2 (fun _ => ((w_f_X12_write_B1 _ _ _).on (by simp) (mm_fr_refl _ _))) (fun _ => ((w_f_X12_write_B2 _ _ _).on (by simp) ((w_f_X12_agrees _ _ _ _).on (by simp) (mm_fr_refl _ _)))))
def f_X12_write_B4 (q1 : Nat) (q2 : Nat) (M_47 : mm_M) : Int32 × mm_M :=
  if (M_47.1 164 q1) ≤ (0 : Int32) then (let v_51 := (f_X12_sealsInto q1 119 0 q2 32 M_47).1
  let M_50 := (f_X12_sealsInto q1 119 0 q2 32 M_47).2
  let u_52 := (if M_47.1 161 q1 = 0 then 32 + q2 else 32 + (q2 + 16))
  let M_53 := f_X12_goesOn q1 M_50
  let v_55 := (f_X12_tells 120 u_52 M_53).1
  let M_54 := (f_X12_tells 120 u_52 M_53).2
  ((v_55), M_54)) else (let v_57 := (f_X12_sealsInto q1 157 (352 * q1 + 192) 32 32 M_47).1
  let M_56 := (f_X12_sealsInto q1 157 (352 * q1 + 192) 32 32 M_47).2
  let u_58 := (if M_47.1 161 q1 = 0 then 32 + 32 else 32 + (32 + 16))
  let M_59 := f_X12_agrees q1 160 96 M_56
  let v_61 := (f_X12_sealsInto q1 119 0 q2 u_58 M_59).1
  let M_60 := (f_X12_sealsInto q1 119 0 q2 u_58 M_59).2
  let u_62 := (if M_59.1 161 q1 = 0 then u_58 + q2 else u_58 + (q2 + 16))
  let M_63 := f_X12_goesOn q1 M_60
  let v_65 := (f_X12_tells 120 u_62 M_63).1
  let M_64 := (f_X12_tells 120 u_62 M_63).2
  ((v_65), M_64))
theorem w_f_X12_write_B4 (q1 : Nat) (q2 : Nat) (M_47 : mm_M) : mm_fr2 [120, 117, 128, 129, 126, 127, 125, 157, 147, 149, 148, 155, 151, 150, 152, 153, 156, 154, 166, 164, 130, 131, 169, 172, 170, 171, 121, 144, 132, 134, 133, 136, 140, 142, 135, 143, 139, 145, 141, 137, 138, 161] M_47 (f_X12_write_B4 q1 q2 M_47) := by
  unfold f_X12_write_B4
  exact (mm_fr_ite2 (fun _ => ((w_f_X12_tells _ _ _).m.on (by simp) ((w_f_X12_goesOn _ _).on (by simp) ((w_f_X12_sealsInto _ _ _ _ _ _).m.on (by simp) (mm_fr_refl _ _)))).b) (fun _ => ((w_f_X12_tells _ _ _).m.on (by simp) ((w_f_X12_goesOn _ _).on (by simp) ((w_f_X12_sealsInto _ _ _ _ _ _).m.on (by simp) ((w_f_X12_agrees _ _ _ _).on (by simp) ((w_f_X12_sealsInto _ _ _ _ _ _).m.on (by simp) (mm_fr_refl _ _)))))).b))
def f_X12_write_B5 (q1 : Nat) (q2 : Nat) (M_66 : mm_M) : Int32 × mm_M :=
  if (M_66.1 164 q1) ≤ (0 : Int32) then (let v_69 := (f_X12_sealsInto q1 119 0 q2 32 M_66).1
  let M_68 := (f_X12_sealsInto q1 119 0 q2 32 M_66).2
  let u_70 := (if M_66.1 161 q1 = 0 then 32 + q2 else 32 + (q2 + 16))
  let M_71 := f_X12_goesOn q1 M_68
  let v_73 := (f_X12_tells 120 u_70 M_71).1
  let M_72 := (f_X12_tells 120 u_70 M_71).2
  ((v_73), M_72)) else (let v_75 := (f_X12_sealsInto q1 157 (352 * q1 + 192) 32 32 M_66).1
  let M_74 := (f_X12_sealsInto q1 157 (352 * q1 + 192) 32 32 M_66).2
  let u_76 := (if M_66.1 161 q1 = 0 then 32 + 32 else 32 + (32 + 16))
  let M_77 := f_X12_agrees q1 160 96 M_74
  let v_79 := (f_X12_sealsInto q1 119 0 q2 u_76 M_77).1
  let M_78 := (f_X12_sealsInto q1 119 0 q2 u_76 M_77).2
  let u_80 := (if M_77.1 161 q1 = 0 then u_76 + q2 else u_76 + (q2 + 16))
  let M_81 := f_X12_goesOn q1 M_78
  let v_83 := (f_X12_tells 120 u_80 M_81).1
  let M_82 := (f_X12_tells 120 u_80 M_81).2
  ((v_83), M_82))
theorem w_f_X12_write_B5 (q1 : Nat) (q2 : Nat) (M_66 : mm_M) : mm_fr2 [120, 117, 128, 129, 126, 127, 125, 157, 147, 149, 148, 155, 151, 150, 152, 153, 156, 154, 166, 164, 130, 131, 169, 172, 170, 171, 121, 144, 132, 134, 133, 136, 140, 142, 135, 143, 139, 145, 141, 137, 138, 161] M_66 (f_X12_write_B5 q1 q2 M_66) := by
  unfold f_X12_write_B5
  exact (mm_fr_ite2 (fun _ => ((w_f_X12_tells _ _ _).m.on (by simp) ((w_f_X12_goesOn _ _).on (by simp) ((w_f_X12_sealsInto _ _ _ _ _ _).m.on (by simp) (mm_fr_refl _ _)))).b) (fun _ => ((w_f_X12_tells _ _ _).m.on (by simp) ((w_f_X12_goesOn _ _).on (by simp) ((w_f_X12_sealsInto _ _ _ _ _ _).m.on (by simp) ((w_f_X12_agrees _ _ _ _).on (by simp) ((w_f_X12_sealsInto _ _ _ _ _ _).m.on (by simp) (mm_fr_refl _ _)))))).b))
def f_X12_write_B6 (q1 : Nat) (q2 : Nat) (M_47 : mm_M) : Int32 × mm_M :=
  if ¬ (M_47.1 164 q1) = (1 : Int32) then (f_X12_write_B4 q1 q2 M_47) else (let M_66 := f_X12_agrees q1 224 96 M_47
  f_X12_write_B5 q1 q2 M_66)
theorem w_f_X12_write_B6 (q1 : Nat) (q2 : Nat) (M_47 : mm_M) : mm_fr2 [120, 117, 128, 129, 126, 127, 125, 157, 147, 149, 148, 155, 151, 150, 152, 153, 156, 154, 166, 164, 130, 131, 169, 172, 170, 171, 121, 144, 132, 134, 133, 136, 140, 142, 135, 143, 139, 145, 141, 137, 138, 161] M_47 (f_X12_write_B6 q1 q2 M_47) := by
  unfold f_X12_write_B6
  exact (mm_fr_ite2 (fun _ => ((w_f_X12_write_B4 _ _ _).on (by simp) (mm_fr_refl _ _))) (fun _ => ((w_f_X12_write_B5 _ _ _).on (by simp) ((w_f_X12_agrees _ _ _ _).on (by simp) (mm_fr_refl _ _)))))
def f_X12_write_B7 (q1 : Nat) (q2 : Nat) (M_6 : mm_M) : Int32 × mm_M :=
  if (2 : Int32) ≤ (M_6.1 164 q1) then (f_X12_write_B3 q1 q2 M_6) else (let M_46 := f_X12_copy 157 (352 * q1 + 256) 120 0 32 M_6
  let M_47 := f_X12_mixHash q1 120 0 32 M_46
  f_X12_write_B6 q1 q2 M_47)
theorem w_f_X12_write_B7 (q1 : Nat) (q2 : Nat) (M_6 : mm_M) : mm_fr2 [120, 117, 128, 129, 126, 127, 125, 157, 147, 149, 148, 155, 151, 150, 152, 153, 156, 154, 166, 164, 130, 131, 169, 172, 170, 171, 121, 144, 132, 134, 133, 136, 140, 142, 135, 143, 139, 145, 141, 137, 138, 161] M_6 (f_X12_write_B7 q1 q2 M_6) := by
  unfold f_X12_write_B7
  exact (mm_fr_ite2 (fun _ => ((w_f_X12_write_B3 _ _ _).on (by simp) (mm_fr_refl _ _))) (fun _ => ((w_f_X12_write_B6 _ _ _).on (by simp) ((w_f_X12_mixHash _ _ _ _ _).on (by simp) ((w_f_X12_copy _ _ _ _ _ _).on (by simp) (mm_fr_refl _ _))))))
def f_X12_write_B8 (q1 : Nat) (q2 : Nat) (M_6 : mm_M) : Int32 × mm_M :=
  if ¬ (f_X12_isToWrite q1 M_6) = (0 : Int32) then (f_X12_write_B7 q1 q2 M_6) else (((-1 : Int32), M_6))
theorem w_f_X12_write_B8 (q1 : Nat) (q2 : Nat) (M_6 : mm_M) : mm_fr2 [120, 117, 128, 129, 126, 127, 125, 157, 147, 149, 148, 155, 151, 150, 152, 153, 156, 154, 166, 164, 130, 131, 169, 172, 170, 171, 121, 144, 132, 134, 133, 136, 140, 142, 135, 143, 139, 145, 141, 137, 138, 161] M_6 (f_X12_write_B8 q1 q2 M_6) := by
  unfold f_X12_write_B8
  exact (mm_fr_ite2 (fun _ => ((w_f_X12_write_B7 _ _ _).on (by simp) (mm_fr_refl _ _))) (fun _ => (mm_fr_refl _ _).b))
def f_X12_write (v1 : Int32) (v2 : Int32) (ts : Nat) (M : mm_M) : Int32 × mm_M :=
  if ¬ f_X12_isSession v1 M = 0 ∧ ¬ f_X12_in v2 0 900 = 0 ∧ v2 ≤ nI ts then (let q1 := (v1).toNatClampNeg
  let q2 := (v2).toNatClampNeg
  let M_6 := f_X12_takes ts M
  f_X12_write_B8 q1 q2 M_6) else (if (f_X12_isSession (v1) M) = (0 : Int32) then (((-2 : Int32), M)) else (if (f_X12_in (v2) (0 : Int32) (900 : Int32)) = (0 : Int32) then (((-2 : Int32), M)) else (((-2 : Int32), M))))
theorem w_f_X12_write (v1 : Int32) (v2 : Int32) (ts : Nat) (M : mm_M) : mm_fr2 [119, 117, 120, 128, 129, 126, 127, 125, 157, 147, 149, 148, 155, 151, 150, 152, 153, 156, 154, 166, 164, 130, 131, 169, 172, 170, 171, 121, 144, 132, 134, 133, 136, 140, 142, 135, 143, 139, 145, 141, 137, 138, 161] M (f_X12_write v1 v2 ts M) := by
  unfold f_X12_write
  exact (mm_fr_ite2 (fun _ => ((w_f_X12_write_B8 _ _ _).on (by simp) ((w_f_X12_takes _ _).on (by simp) (mm_fr_refl _ _)))) (fun _ => (mm_fr_ite2 (fun _ => (mm_fr_refl _ _).b) (fun _ => (mm_fr_ite2 (fun _ => (mm_fr_refl _ _).b) (fun _ => (mm_fr_refl _ _).b))))))
set_option maxHeartbeats 4000000 in
set_option maxRecDepth 100000 in
theorem c_X12_write (l : Launch) (D : va_G) (b0 : Nat) (r : Nat → Nat) (M : mm_M) (v1 : Int32) (v2 : Int32) (ts : Nat) (hts : ts ≤ 1000) (h1 : M.1 117 4 = nI ts) : mm_Mi l yX12_write cX12_write 5 .int 7 161 D b0 r [.ref (r (117)), .int (v1), .int (v2)] M (fun v M' => (v, M') = f_X12_write v1 v2 ts M) := by
  refine mm_enter (cc := cX12_write) (nL := 5) (ret := (some .int)) (by decide) (Nat.le_of_ble_eq_true rfl) ?_
  intro p e s m args below meth c C w ls hl
  have hl : lv_has ls 5 [(0, .ref (r (117))), (1, .int (v1)), (2, .int (v2))] := hl
  by_cases hS : ¬ f_X12_isSession v1 M = 0 ∧ ¬ f_X12_in v2 0 900 = 0 ∧ v2 ≤ nI ts
  · obtain ⟨q1, eq1⟩ : ∃ zz, zz = (v1).toNatClampNeg := ⟨_, rfl⟩
    obtain ⟨hvq1, hbq1⟩ : v1 = nI q1 ∧ q1 < 4 := by rw [eq1]; exact g_isSession2 hS.1
    rw [hvq1] at hl
    obtain ⟨q2, eq2⟩ : ∃ zz, zz = (v2).toNatClampNeg := ⟨_, rfl⟩
    obtain ⟨hvq2, hbq2⟩ : v2 = nI q2 ∧ q2 ≤ ts ∧ q2 ≤ 900 := by rw [eq2]; exact g_inT hts hS.2.1 hS.2.2
    rw [hvq2] at hl
    have hTq1 : ¬ f_X12_isSession (nI q1) M = 0 := by rw [← hvq1]; exact hS.1
    have hTq2 : ¬ f_X12_in (nI q2) 0 900 = 0 := by rw [← hvq2]; exact hS.2.1
    obtain ⟨hb2a, hb2b⟩ := hbq2
    refine lv_aload_n C.1 C.2.1 dX12_write_0 rfl (lv_at hl 0 rfl) ?_
    refine lv_iload_n C.1 C.2.1 dX12_write_1 rfl (lv_at hl 1 rfl) ?_
    refine m_cvi C w hl cvX12_421 (k := 117) (by decide) rfl (q := (RX12, TX12, 58)) rfl rfl (As := [.int (nI (q1))]) (rest := []) (c_X12_isSession l D b0 r M (nI (q1)) ) rfl rfl (Nat.le_of_ble_eq_true rfl) ⟨Nat.le_of_ble_eq_true rfl, Nat.le_of_ble_eq_true rfl⟩ ⟨Nat.zero_le _, Nat.zero_le _⟩ dX12_write_2 (fun v_1 M9 H locs e9 w => ?_)
    obtain ⟨ev_1, e9⟩ := e9
    rw [e9] at w
    subst ev_1
    refine lv_if_eq (tgt := 27) C.1 C.2.1 dX12_write_5 (by decide) (fun h_2 => absurd h_2 hTq1) (fun _ => ?_)
    refine lv_iload_n C.1 C.2.1 dX12_write_8 rfl (lv_at hl 2 rfl) ?_
    refine lv_iconst (v := 0) C.1 C.2.1 dX12_write_9 (by decide) ?_
    refine lv_sipush (v := 900) C.1 C.2.1 dX12_write_10 (by decide) ?_
    refine m_csi C w hl csX12_373 (As := [.int (nI (q2)), .int 0, .int 900]) (rest := []) (c_X12_in l D b0 r M (nI (q2)) (0 : Int32) (900 : Int32) ) rfl rfl (Nat.le_of_ble_eq_true rfl) ⟨Nat.le_of_ble_eq_true rfl, Nat.le_of_ble_eq_true rfl⟩ ⟨Nat.zero_le _, Nat.zero_le _⟩ dX12_write_13 (fun v_3 M9 H locs e9 w => ?_)
    obtain ⟨ev_3, e9⟩ := e9
    rw [e9] at w
    subst ev_3
    refine lv_if_eq (tgt := 27) C.1 C.2.1 dX12_write_16 (by decide) (fun h_4 => absurd h_4 hTq2) (fun _ => ?_)
    refine lv_iload_n C.1 C.2.1 dX12_write_19 rfl (lv_at hl 2 rfl) ?_
    refine lv_aload_n C.1 C.2.1 dX12_write_20 rfl (lv_at hl 0 rfl) ?_
    refine m_get C w (k := 117) (j := 4) (v := .int (M.1 117 4)) flX12_364 (by decide) rfl rfl dX12_write_21 ?_
    refine m_i (y := nI (ts)) h1 ?_
    refine m_icmp_le (tgt := 30) (a := q2) (b := ts) C (by omega) (by omega) dX12_write_24 (by decide) (fun _ => ?_) (fun h_5 => absurd h_5 (by omega))
    refine lv_aload_n C.1 C.2.1 dX12_write_30 rfl (lv_at hl 0 rfl) ?_
    refine m_cvv C w hl cvX12_381 (k := 117) (by decide) rfl (q := (RX12, TX12, 58)) rfl rfl (As := []) (rest := []) (c_X12_takes l D b0 r M ts (by omega) h1) rfl rfl (Nat.le_of_ble_eq_true rfl) ⟨Nat.le_of_ble_eq_true rfl, Nat.le_of_ble_eq_true rfl⟩ ⟨Nat.zero_le _, Nat.zero_le _⟩ dX12_write_31 (fun M_6 H locs eM_6 w => ?_)
    refine lv_aload_n C.1 C.2.1 dX12_write_34 rfl (lv_at hl 0 rfl) ?_
    refine lv_iload_n C.1 C.2.1 dX12_write_35 rfl (lv_at hl 1 rfl) ?_
    refine m_cvi C w hl cvX12_424 (k := 117) (by decide) rfl (q := (RX12, TX12, 58)) rfl rfl (As := [.int (nI (q1))]) (rest := []) (c_X12_isToWrite l D b0 r M_6 q1 (by omega)) rfl rfl (Nat.le_of_ble_eq_true rfl) ⟨Nat.le_of_ble_eq_true rfl, Nat.le_of_ble_eq_true rfl⟩ ⟨Nat.zero_le _, Nat.zero_le _⟩ dX12_write_36 (fun v_7 M9 H locs e9 w => ?_)
    obtain ⟨ev_7, e9⟩ := e9
    rw [e9] at w
    subst ev_7
    refine lv_if_ne (tgt := 44) C.1 C.2.1 dX12_write_39 (by decide) (fun h_8 => ?_) (fun h_8 => ?_)
    · refine lv_sipush (v := 352) C.1 C.2.1 dX12_write_44 (by decide) ?_
      refine lv_iload_n C.1 C.2.1 dX12_write_47 rfl (lv_at hl 1 rfl) ?_
      refine lv_imul C.1 C.2.1 dX12_write_48 ?_
      refine m_i (y := nI (352 * q1)) (pk_mul 352 q1) ?_
      refine lv_istore_n (lv' := [(3, .int (nI (352 * q1))), (0, .ref (r (117))), (1, .int (nI (q1))), (2, .int (nI (q2)))]) C.1 C.2.1 dX12_write_49 rfl hl (by decide) rfl (fun ls hl => ?_)
      refine lv_iconst (v := 0) C.1 C.2.1 dX12_write_50 (by decide) ?_
      refine lv_istore (lv' := [(4, .int 0), (3, .int (nI (352 * q1))), (0, .ref (r (117))), (1, .int (nI (q1))), (2, .int (nI (q2)))]) C.1 C.2.1 dX12_write_51 hl (by decide) rfl (fun ls hl => ?_)
      refine lv_aload_n C.1 C.2.1 dX12_write_53 rfl (lv_at hl 2 rfl) ?_
      refine m_get C w (k := 117) (j := 49) (v := .ref (r (164))) flX12_223 (by decide) rfl rfl dX12_write_54 ?_
      refine lv_iload_n C.1 C.2.1 dX12_write_57 rfl (lv_at hl 3 rfl) ?_
      refine m_iald C w (k := 164) (i := q1) (n := 4) (wr := true) (by decide) rfl (by omega) (by decide) dX12_write_58 ?_
      refine lv_iconst (v := 2) C.1 C.2.1 dX12_write_59 (by decide) ?_
      refine lv_icmp_ge (tgt := 98) C.1 C.2.1 dX12_write_60 (by decide) (fun h_9 => ?_) (fun h_9 => ?_)
      · refine lv_aload_n C.1 C.2.1 dX12_write_98 rfl (lv_at hl 2 rfl) ?_
        refine m_get C w (k := 117) (j := 49) (v := .ref (r (164))) flX12_223 (by decide) rfl rfl dX12_write_99 ?_
        refine lv_iload_n C.1 C.2.1 dX12_write_102 rfl (lv_at hl 3 rfl) ?_
        refine m_iald C w (k := 164) (i := q1) (n := 4) (wr := true) (by decide) rfl (by omega) (by decide) dX12_write_103 ?_
        refine lv_iconst (v := 1) C.1 C.2.1 dX12_write_104 (by decide) ?_
        refine lv_icmp_ne (tgt := 118) C.1 C.2.1 dX12_write_105 (by decide) (fun h_10 => ?_) (fun h_10 => ?_)
        · refine lv_aload_n C.1 C.2.1 dX12_write_118 rfl (lv_at hl 2 rfl) ?_
          refine m_get C w (k := 117) (j := 49) (v := .ref (r (164))) flX12_223 (by decide) rfl rfl dX12_write_119 ?_
          refine lv_iload_n C.1 C.2.1 dX12_write_122 rfl (lv_at hl 3 rfl) ?_
          refine m_iald C w (k := 164) (i := q1) (n := 4) (wr := true) (by decide) rfl (by omega) (by decide) dX12_write_123 ?_
          refine lv_if_le (tgt := 157) C.1 C.2.1 dX12_write_124 (by decide) (fun h_11 => ?_) (fun h_11 => ?_)
          · refine lv_aload_n C.1 C.2.1 dX12_write_157 rfl (lv_at hl 2 rfl) ?_
            refine lv_iload_n C.1 C.2.1 dX12_write_158 rfl (lv_at hl 3 rfl) ?_
            refine lv_aload_n C.1 C.2.1 dX12_write_159 rfl (lv_at hl 2 rfl) ?_
            refine m_get C w (k := 117) (j := 1) (v := .ref (r (119))) flX12_13 (by decide) rfl rfl dX12_write_160 ?_
            refine lv_iconst (v := 0) C.1 C.2.1 dX12_write_163 (by decide) ?_
            refine lv_iload_n C.1 C.2.1 dX12_write_164 rfl (lv_at hl 4 rfl) ?_
            refine lv_iload C.1 C.2.1 dX12_write_165 (lv_at hl 0 rfl) ?_
            refine m_cvi C w hl cvX12_431 (k := 117) (by decide) rfl (q := (RX12, TX12, 58)) rfl rfl (As := [.int (nI (q1)), .ref (r (119)), .int 0, .int (nI (q2)), .int 0]) (rest := []) (c_X12_sealsInto l D b0 r M_6 q1 119 0 q2 0 (by omega) (by decide) rfl (by decide) (by omega) (by omega) (by omega)) rfl rfl (Nat.le_of_ble_eq_true rfl) ⟨Nat.le_of_ble_eq_true rfl, Nat.le_of_ble_eq_true rfl⟩ ⟨Nat.zero_le _, Nat.zero_le _⟩ dX12_write_167 (fun v_13 M_12 H locs e9 w => ?_)
            obtain ⟨ev_13, eM_12⟩ : v_13 = (f_X12_sealsInto q1 119 0 q2 0 M_6).1 ∧ M_12 = (f_X12_sealsInto q1 119 0 q2 0 M_6).2 := ⟨congrArg Prod.fst e9, congrArg Prod.snd e9⟩
            clear e9
            obtain ⟨u_14, eu_14⟩ : ∃ zz, zz = (if M_6.1 161 q1 = 0 then 0 + q2 else 0 + (q2 + 16)) := ⟨_, rfl⟩
            have hu_14 : u_14 ≤ 0 + q2 + 16 := by rw [eu_14]; split <;> omega
            refine m_i (y := nI (u_14)) (by rw [ev_13, eu_14]; exact r_X12_sealsInto _ _ _ _ _ _) ?_
            refine lv_istore (lv' := [(4, .int (nI (u_14))), (3, .int (nI (352 * q1))), (0, .ref (r (117))), (1, .int (nI (q1))), (2, .int (nI (q2)))]) C.1 C.2.1 dX12_write_170 hl (by decide) rfl (fun ls hl => ?_)
            refine lv_aload_n C.1 C.2.1 dX12_write_172 rfl (lv_at hl 2 rfl) ?_
            refine lv_iload_n C.1 C.2.1 dX12_write_173 rfl (lv_at hl 3 rfl) ?_
            refine m_cvv C w hl cvX12_435 (k := 117) (by decide) rfl (q := (RX12, TX12, 58)) rfl rfl (As := [.int (nI (q1))]) (rest := []) (c_X12_goesOn l D b0 r M_12 q1 (by omega)) rfl rfl (Nat.le_of_ble_eq_true rfl) ⟨Nat.le_of_ble_eq_true rfl, Nat.le_of_ble_eq_true rfl⟩ ⟨Nat.zero_le _, Nat.zero_le _⟩ dX12_write_174 (fun M_15 H locs eM_15 w => ?_)
            refine lv_aload_n C.1 C.2.1 dX12_write_177 rfl (lv_at hl 2 rfl) ?_
            refine lv_aload_n C.1 C.2.1 dX12_write_178 rfl (lv_at hl 2 rfl) ?_
            refine m_get C w (k := 117) (j := 2) (v := .ref (r (120))) flX12_16 (by decide) rfl rfl dX12_write_179 ?_
            refine lv_iload C.1 C.2.1 dX12_write_182 (lv_at hl 0 rfl) ?_
            refine m_cvi C w hl cvX12_388 (k := 117) (by decide) rfl (q := (RX12, TX12, 58)) rfl rfl (As := [.ref (r (120)), .int (nI (u_14))]) (rest := []) (c_X12_tells l D b0 r M_15 120 u_14 (by decide) rfl (by decide) (by omega) (by omega) (by omega)) rfl rfl (Nat.le_of_ble_eq_true rfl) ⟨Nat.le_of_ble_eq_true rfl, Nat.le_of_ble_eq_true rfl⟩ ⟨Nat.zero_le _, Nat.zero_le _⟩ dX12_write_184 (fun v_17 M_16 H locs e9 w => ?_)
            obtain ⟨ev_17, eM_16⟩ : v_17 = (f_X12_tells 120 u_14 M_15).1 ∧ M_16 = (f_X12_tells 120 u_14 M_15).2 := ⟨congrArg Prod.fst e9, congrArg Prod.snd e9⟩
            clear e9
            exact m_iret C w (by subst eq1 eq2 eM_6 ev_13 eM_12 eu_14 eM_15 ev_17 eM_16; exact Eq.symm (((if_pos hS).trans ((if_pos h_8).trans ((if_pos h_9).trans ((if_pos h_10).trans ((if_pos h_11).trans rfl))))))) dX12_write_187
          · refine lv_aload_n C.1 C.2.1 dX12_write_127 rfl (lv_at hl 2 rfl) ?_
            refine lv_iload_n C.1 C.2.1 dX12_write_128 rfl (lv_at hl 3 rfl) ?_
            refine lv_aload_n C.1 C.2.1 dX12_write_129 rfl (lv_at hl 2 rfl) ?_
            refine m_get C w (k := 117) (j := 42) (v := .ref (r (157))) flX12_201 (by decide) rfl rfl dX12_write_130 ?_
            refine lv_iload_n C.1 C.2.1 dX12_write_133 rfl (lv_at hl 1 rfl) ?_
            refine lv_sipush (v := 192) C.1 C.2.1 dX12_write_134 (by decide) ?_
            refine lv_iadd C.1 C.2.1 dX12_write_137 ?_
            refine m_i (y := nI (352 * q1 + 192)) (nI_add (352 * q1) 192) ?_
            refine lv_bipush (v := 32) C.1 C.2.1 dX12_write_138 (by decide) ?_
            refine lv_iload C.1 C.2.1 dX12_write_140 (lv_at hl 0 rfl) ?_
            refine m_cvi C w hl cvX12_431 (k := 117) (by decide) rfl (q := (RX12, TX12, 58)) rfl rfl (As := [.int (nI (q1)), .ref (r (157)), .int (nI (352 * q1 + 192)), .int 32, .int 0]) (rest := []) (c_X12_sealsInto l D b0 r M_6 q1 157 (352 * q1 + 192) 32 0 (by omega) (by decide) rfl (by decide) (by omega) (by omega) (by omega)) rfl rfl (Nat.le_of_ble_eq_true rfl) ⟨Nat.le_of_ble_eq_true rfl, Nat.le_of_ble_eq_true rfl⟩ ⟨Nat.zero_le _, Nat.zero_le _⟩ dX12_write_142 (fun v_19 M_18 H locs e9 w => ?_)
            obtain ⟨ev_19, eM_18⟩ : v_19 = (f_X12_sealsInto q1 157 (352 * q1 + 192) 32 0 M_6).1 ∧ M_18 = (f_X12_sealsInto q1 157 (352 * q1 + 192) 32 0 M_6).2 := ⟨congrArg Prod.fst e9, congrArg Prod.snd e9⟩
            clear e9
            obtain ⟨u_20, eu_20⟩ : ∃ zz, zz = (if M_6.1 161 q1 = 0 then 0 + 32 else 0 + (32 + 16)) := ⟨_, rfl⟩
            have hu_20 : u_20 ≤ 0 + 32 + 16 := by rw [eu_20]; split <;> omega
            refine m_i (y := nI (u_20)) (by rw [ev_19, eu_20]; exact r_X12_sealsInto _ _ _ _ _ _) ?_
            refine lv_istore (lv' := [(4, .int (nI (u_20))), (3, .int (nI (352 * q1))), (0, .ref (r (117))), (1, .int (nI (q1))), (2, .int (nI (q2)))]) C.1 C.2.1 dX12_write_145 hl (by decide) rfl (fun ls hl => ?_)
            refine lv_aload_n C.1 C.2.1 dX12_write_147 rfl (lv_at hl 2 rfl) ?_
            refine lv_iload_n C.1 C.2.1 dX12_write_148 rfl (lv_at hl 3 rfl) ?_
            refine lv_sipush (v := 160) C.1 C.2.1 dX12_write_149 (by decide) ?_
            refine lv_bipush (v := 96) C.1 C.2.1 dX12_write_152 (by decide) ?_
            refine m_cvv C w hl cvX12_427 (k := 117) (by decide) rfl (q := (RX12, TX12, 58)) rfl rfl (As := [.int (nI (q1)), .int 160, .int 96]) (rest := []) (c_X12_agrees l D b0 r M_18 q1 160 96 (by omega) (by omega) (by omega)) rfl rfl (Nat.le_of_ble_eq_true rfl) ⟨Nat.le_of_ble_eq_true rfl, Nat.le_of_ble_eq_true rfl⟩ ⟨Nat.zero_le _, Nat.zero_le _⟩ dX12_write_154 (fun M_21 H locs eM_21 w => ?_)
            refine lv_aload_n C.1 C.2.1 dX12_write_157 rfl (lv_at hl 2 rfl) ?_
            refine lv_iload_n C.1 C.2.1 dX12_write_158 rfl (lv_at hl 3 rfl) ?_
            refine lv_aload_n C.1 C.2.1 dX12_write_159 rfl (lv_at hl 2 rfl) ?_
            refine m_get C w (k := 117) (j := 1) (v := .ref (r (119))) flX12_13 (by decide) rfl rfl dX12_write_160 ?_
            refine lv_iconst (v := 0) C.1 C.2.1 dX12_write_163 (by decide) ?_
            refine lv_iload_n C.1 C.2.1 dX12_write_164 rfl (lv_at hl 4 rfl) ?_
            refine lv_iload C.1 C.2.1 dX12_write_165 (lv_at hl 0 rfl) ?_
            refine m_cvi C w hl cvX12_431 (k := 117) (by decide) rfl (q := (RX12, TX12, 58)) rfl rfl (As := [.int (nI (q1)), .ref (r (119)), .int 0, .int (nI (q2)), .int (nI (u_20))]) (rest := []) (c_X12_sealsInto l D b0 r M_21 q1 119 0 q2 u_20 (by omega) (by decide) rfl (by decide) (by omega) (by omega) (by omega)) rfl rfl (Nat.le_of_ble_eq_true rfl) ⟨Nat.le_of_ble_eq_true rfl, Nat.le_of_ble_eq_true rfl⟩ ⟨Nat.zero_le _, Nat.zero_le _⟩ dX12_write_167 (fun v_23 M_22 H locs e9 w => ?_)
            obtain ⟨ev_23, eM_22⟩ : v_23 = (f_X12_sealsInto q1 119 0 q2 u_20 M_21).1 ∧ M_22 = (f_X12_sealsInto q1 119 0 q2 u_20 M_21).2 := ⟨congrArg Prod.fst e9, congrArg Prod.snd e9⟩
            clear e9
            obtain ⟨u_24, eu_24⟩ : ∃ zz, zz = (if M_21.1 161 q1 = 0 then u_20 + q2 else u_20 + (q2 + 16)) := ⟨_, rfl⟩
            have hu_24 : u_24 ≤ u_20 + q2 + 16 := by rw [eu_24]; split <;> omega
            refine m_i (y := nI (u_24)) (by rw [ev_23, eu_24]; exact r_X12_sealsInto _ _ _ _ _ _) ?_
            refine lv_istore (lv' := [(4, .int (nI (u_24))), (3, .int (nI (352 * q1))), (0, .ref (r (117))), (1, .int (nI (q1))), (2, .int (nI (q2)))]) C.1 C.2.1 dX12_write_170 hl (by decide) rfl (fun ls hl => ?_)
            refine lv_aload_n C.1 C.2.1 dX12_write_172 rfl (lv_at hl 2 rfl) ?_
            refine lv_iload_n C.1 C.2.1 dX12_write_173 rfl (lv_at hl 3 rfl) ?_
            refine m_cvv C w hl cvX12_435 (k := 117) (by decide) rfl (q := (RX12, TX12, 58)) rfl rfl (As := [.int (nI (q1))]) (rest := []) (c_X12_goesOn l D b0 r M_22 q1 (by omega)) rfl rfl (Nat.le_of_ble_eq_true rfl) ⟨Nat.le_of_ble_eq_true rfl, Nat.le_of_ble_eq_true rfl⟩ ⟨Nat.zero_le _, Nat.zero_le _⟩ dX12_write_174 (fun M_25 H locs eM_25 w => ?_)
            refine lv_aload_n C.1 C.2.1 dX12_write_177 rfl (lv_at hl 2 rfl) ?_
            refine lv_aload_n C.1 C.2.1 dX12_write_178 rfl (lv_at hl 2 rfl) ?_
            refine m_get C w (k := 117) (j := 2) (v := .ref (r (120))) flX12_16 (by decide) rfl rfl dX12_write_179 ?_
            refine lv_iload C.1 C.2.1 dX12_write_182 (lv_at hl 0 rfl) ?_
            refine m_cvi C w hl cvX12_388 (k := 117) (by decide) rfl (q := (RX12, TX12, 58)) rfl rfl (As := [.ref (r (120)), .int (nI (u_24))]) (rest := []) (c_X12_tells l D b0 r M_25 120 u_24 (by decide) rfl (by decide) (by omega) (by omega) (by omega)) rfl rfl (Nat.le_of_ble_eq_true rfl) ⟨Nat.le_of_ble_eq_true rfl, Nat.le_of_ble_eq_true rfl⟩ ⟨Nat.zero_le _, Nat.zero_le _⟩ dX12_write_184 (fun v_27 M_26 H locs e9 w => ?_)
            obtain ⟨ev_27, eM_26⟩ : v_27 = (f_X12_tells 120 u_24 M_25).1 ∧ M_26 = (f_X12_tells 120 u_24 M_25).2 := ⟨congrArg Prod.fst e9, congrArg Prod.snd e9⟩
            clear e9
            exact m_iret C w (by subst eq1 eq2 eM_6 ev_19 eM_18 eu_20 eM_21 ev_23 eM_22 eu_24 eM_25 ev_27 eM_26; exact Eq.symm (((if_pos hS).trans ((if_pos h_8).trans ((if_pos h_9).trans ((if_pos h_10).trans ((if_neg h_11).trans rfl))))))) dX12_write_187
        · refine lv_aload_n C.1 C.2.1 dX12_write_108 rfl (lv_at hl 2 rfl) ?_
          refine lv_iload_n C.1 C.2.1 dX12_write_109 rfl (lv_at hl 3 rfl) ?_
          refine lv_sipush (v := 224) C.1 C.2.1 dX12_write_110 (by decide) ?_
          refine lv_bipush (v := 96) C.1 C.2.1 dX12_write_113 (by decide) ?_
          refine m_cvv C w hl cvX12_427 (k := 117) (by decide) rfl (q := (RX12, TX12, 58)) rfl rfl (As := [.int (nI (q1)), .int 224, .int 96]) (rest := []) (c_X12_agrees l D b0 r M_6 q1 224 96 (by omega) (by omega) (by omega)) rfl rfl (Nat.le_of_ble_eq_true rfl) ⟨Nat.le_of_ble_eq_true rfl, Nat.le_of_ble_eq_true rfl⟩ ⟨Nat.zero_le _, Nat.zero_le _⟩ dX12_write_115 (fun M_28 H locs eM_28 w => ?_)
          refine lv_aload_n C.1 C.2.1 dX12_write_118 rfl (lv_at hl 2 rfl) ?_
          refine m_get C w (k := 117) (j := 49) (v := .ref (r (164))) flX12_223 (by decide) rfl rfl dX12_write_119 ?_
          refine lv_iload_n C.1 C.2.1 dX12_write_122 rfl (lv_at hl 3 rfl) ?_
          refine m_iald C w (k := 164) (i := q1) (n := 4) (wr := true) (by decide) rfl (by omega) (by decide) dX12_write_123 ?_
          refine lv_if_le (tgt := 157) C.1 C.2.1 dX12_write_124 (by decide) (fun h_29 => ?_) (fun h_29 => ?_)
          · refine lv_aload_n C.1 C.2.1 dX12_write_157 rfl (lv_at hl 2 rfl) ?_
            refine lv_iload_n C.1 C.2.1 dX12_write_158 rfl (lv_at hl 3 rfl) ?_
            refine lv_aload_n C.1 C.2.1 dX12_write_159 rfl (lv_at hl 2 rfl) ?_
            refine m_get C w (k := 117) (j := 1) (v := .ref (r (119))) flX12_13 (by decide) rfl rfl dX12_write_160 ?_
            refine lv_iconst (v := 0) C.1 C.2.1 dX12_write_163 (by decide) ?_
            refine lv_iload_n C.1 C.2.1 dX12_write_164 rfl (lv_at hl 4 rfl) ?_
            refine lv_iload C.1 C.2.1 dX12_write_165 (lv_at hl 0 rfl) ?_
            refine m_cvi C w hl cvX12_431 (k := 117) (by decide) rfl (q := (RX12, TX12, 58)) rfl rfl (As := [.int (nI (q1)), .ref (r (119)), .int 0, .int (nI (q2)), .int 0]) (rest := []) (c_X12_sealsInto l D b0 r M_28 q1 119 0 q2 0 (by omega) (by decide) rfl (by decide) (by omega) (by omega) (by omega)) rfl rfl (Nat.le_of_ble_eq_true rfl) ⟨Nat.le_of_ble_eq_true rfl, Nat.le_of_ble_eq_true rfl⟩ ⟨Nat.zero_le _, Nat.zero_le _⟩ dX12_write_167 (fun v_31 M_30 H locs e9 w => ?_)
            obtain ⟨ev_31, eM_30⟩ : v_31 = (f_X12_sealsInto q1 119 0 q2 0 M_28).1 ∧ M_30 = (f_X12_sealsInto q1 119 0 q2 0 M_28).2 := ⟨congrArg Prod.fst e9, congrArg Prod.snd e9⟩
            clear e9
            obtain ⟨u_32, eu_32⟩ : ∃ zz, zz = (if M_28.1 161 q1 = 0 then 0 + q2 else 0 + (q2 + 16)) := ⟨_, rfl⟩
            have hu_32 : u_32 ≤ 0 + q2 + 16 := by rw [eu_32]; split <;> omega
            refine m_i (y := nI (u_32)) (by rw [ev_31, eu_32]; exact r_X12_sealsInto _ _ _ _ _ _) ?_
            refine lv_istore (lv' := [(4, .int (nI (u_32))), (3, .int (nI (352 * q1))), (0, .ref (r (117))), (1, .int (nI (q1))), (2, .int (nI (q2)))]) C.1 C.2.1 dX12_write_170 hl (by decide) rfl (fun ls hl => ?_)
            refine lv_aload_n C.1 C.2.1 dX12_write_172 rfl (lv_at hl 2 rfl) ?_
            refine lv_iload_n C.1 C.2.1 dX12_write_173 rfl (lv_at hl 3 rfl) ?_
            refine m_cvv C w hl cvX12_435 (k := 117) (by decide) rfl (q := (RX12, TX12, 58)) rfl rfl (As := [.int (nI (q1))]) (rest := []) (c_X12_goesOn l D b0 r M_30 q1 (by omega)) rfl rfl (Nat.le_of_ble_eq_true rfl) ⟨Nat.le_of_ble_eq_true rfl, Nat.le_of_ble_eq_true rfl⟩ ⟨Nat.zero_le _, Nat.zero_le _⟩ dX12_write_174 (fun M_33 H locs eM_33 w => ?_)
            refine lv_aload_n C.1 C.2.1 dX12_write_177 rfl (lv_at hl 2 rfl) ?_
            refine lv_aload_n C.1 C.2.1 dX12_write_178 rfl (lv_at hl 2 rfl) ?_
            refine m_get C w (k := 117) (j := 2) (v := .ref (r (120))) flX12_16 (by decide) rfl rfl dX12_write_179 ?_
            refine lv_iload C.1 C.2.1 dX12_write_182 (lv_at hl 0 rfl) ?_
            refine m_cvi C w hl cvX12_388 (k := 117) (by decide) rfl (q := (RX12, TX12, 58)) rfl rfl (As := [.ref (r (120)), .int (nI (u_32))]) (rest := []) (c_X12_tells l D b0 r M_33 120 u_32 (by decide) rfl (by decide) (by omega) (by omega) (by omega)) rfl rfl (Nat.le_of_ble_eq_true rfl) ⟨Nat.le_of_ble_eq_true rfl, Nat.le_of_ble_eq_true rfl⟩ ⟨Nat.zero_le _, Nat.zero_le _⟩ dX12_write_184 (fun v_35 M_34 H locs e9 w => ?_)
            obtain ⟨ev_35, eM_34⟩ : v_35 = (f_X12_tells 120 u_32 M_33).1 ∧ M_34 = (f_X12_tells 120 u_32 M_33).2 := ⟨congrArg Prod.fst e9, congrArg Prod.snd e9⟩
            clear e9
            exact m_iret C w (by subst eq1 eq2 eM_6 eM_28 ev_31 eM_30 eu_32 eM_33 ev_35 eM_34; exact Eq.symm (((if_pos hS).trans ((if_pos h_8).trans ((if_pos h_9).trans ((if_neg (fun q => q h_10)).trans ((if_pos h_29).trans rfl))))))) dX12_write_187
          · refine lv_aload_n C.1 C.2.1 dX12_write_127 rfl (lv_at hl 2 rfl) ?_
            refine lv_iload_n C.1 C.2.1 dX12_write_128 rfl (lv_at hl 3 rfl) ?_
            refine lv_aload_n C.1 C.2.1 dX12_write_129 rfl (lv_at hl 2 rfl) ?_
            refine m_get C w (k := 117) (j := 42) (v := .ref (r (157))) flX12_201 (by decide) rfl rfl dX12_write_130 ?_
            refine lv_iload_n C.1 C.2.1 dX12_write_133 rfl (lv_at hl 1 rfl) ?_
            refine lv_sipush (v := 192) C.1 C.2.1 dX12_write_134 (by decide) ?_
            refine lv_iadd C.1 C.2.1 dX12_write_137 ?_
            refine m_i (y := nI (352 * q1 + 192)) (nI_add (352 * q1) 192) ?_
            refine lv_bipush (v := 32) C.1 C.2.1 dX12_write_138 (by decide) ?_
            refine lv_iload C.1 C.2.1 dX12_write_140 (lv_at hl 0 rfl) ?_
            refine m_cvi C w hl cvX12_431 (k := 117) (by decide) rfl (q := (RX12, TX12, 58)) rfl rfl (As := [.int (nI (q1)), .ref (r (157)), .int (nI (352 * q1 + 192)), .int 32, .int 0]) (rest := []) (c_X12_sealsInto l D b0 r M_28 q1 157 (352 * q1 + 192) 32 0 (by omega) (by decide) rfl (by decide) (by omega) (by omega) (by omega)) rfl rfl (Nat.le_of_ble_eq_true rfl) ⟨Nat.le_of_ble_eq_true rfl, Nat.le_of_ble_eq_true rfl⟩ ⟨Nat.zero_le _, Nat.zero_le _⟩ dX12_write_142 (fun v_37 M_36 H locs e9 w => ?_)
            obtain ⟨ev_37, eM_36⟩ : v_37 = (f_X12_sealsInto q1 157 (352 * q1 + 192) 32 0 M_28).1 ∧ M_36 = (f_X12_sealsInto q1 157 (352 * q1 + 192) 32 0 M_28).2 := ⟨congrArg Prod.fst e9, congrArg Prod.snd e9⟩
            clear e9
            obtain ⟨u_38, eu_38⟩ : ∃ zz, zz = (if M_28.1 161 q1 = 0 then 0 + 32 else 0 + (32 + 16)) := ⟨_, rfl⟩
            have hu_38 : u_38 ≤ 0 + 32 + 16 := by rw [eu_38]; split <;> omega
            refine m_i (y := nI (u_38)) (by rw [ev_37, eu_38]; exact r_X12_sealsInto _ _ _ _ _ _) ?_
            refine lv_istore (lv' := [(4, .int (nI (u_38))), (3, .int (nI (352 * q1))), (0, .ref (r (117))), (1, .int (nI (q1))), (2, .int (nI (q2)))]) C.1 C.2.1 dX12_write_145 hl (by decide) rfl (fun ls hl => ?_)
            refine lv_aload_n C.1 C.2.1 dX12_write_147 rfl (lv_at hl 2 rfl) ?_
            refine lv_iload_n C.1 C.2.1 dX12_write_148 rfl (lv_at hl 3 rfl) ?_
            refine lv_sipush (v := 160) C.1 C.2.1 dX12_write_149 (by decide) ?_
            refine lv_bipush (v := 96) C.1 C.2.1 dX12_write_152 (by decide) ?_
            refine m_cvv C w hl cvX12_427 (k := 117) (by decide) rfl (q := (RX12, TX12, 58)) rfl rfl (As := [.int (nI (q1)), .int 160, .int 96]) (rest := []) (c_X12_agrees l D b0 r M_36 q1 160 96 (by omega) (by omega) (by omega)) rfl rfl (Nat.le_of_ble_eq_true rfl) ⟨Nat.le_of_ble_eq_true rfl, Nat.le_of_ble_eq_true rfl⟩ ⟨Nat.zero_le _, Nat.zero_le _⟩ dX12_write_154 (fun M_39 H locs eM_39 w => ?_)
            refine lv_aload_n C.1 C.2.1 dX12_write_157 rfl (lv_at hl 2 rfl) ?_
            refine lv_iload_n C.1 C.2.1 dX12_write_158 rfl (lv_at hl 3 rfl) ?_
            refine lv_aload_n C.1 C.2.1 dX12_write_159 rfl (lv_at hl 2 rfl) ?_
            refine m_get C w (k := 117) (j := 1) (v := .ref (r (119))) flX12_13 (by decide) rfl rfl dX12_write_160 ?_
            refine lv_iconst (v := 0) C.1 C.2.1 dX12_write_163 (by decide) ?_
            refine lv_iload_n C.1 C.2.1 dX12_write_164 rfl (lv_at hl 4 rfl) ?_
            refine lv_iload C.1 C.2.1 dX12_write_165 (lv_at hl 0 rfl) ?_
            refine m_cvi C w hl cvX12_431 (k := 117) (by decide) rfl (q := (RX12, TX12, 58)) rfl rfl (As := [.int (nI (q1)), .ref (r (119)), .int 0, .int (nI (q2)), .int (nI (u_38))]) (rest := []) (c_X12_sealsInto l D b0 r M_39 q1 119 0 q2 u_38 (by omega) (by decide) rfl (by decide) (by omega) (by omega) (by omega)) rfl rfl (Nat.le_of_ble_eq_true rfl) ⟨Nat.le_of_ble_eq_true rfl, Nat.le_of_ble_eq_true rfl⟩ ⟨Nat.zero_le _, Nat.zero_le _⟩ dX12_write_167 (fun v_41 M_40 H locs e9 w => ?_)
            obtain ⟨ev_41, eM_40⟩ : v_41 = (f_X12_sealsInto q1 119 0 q2 u_38 M_39).1 ∧ M_40 = (f_X12_sealsInto q1 119 0 q2 u_38 M_39).2 := ⟨congrArg Prod.fst e9, congrArg Prod.snd e9⟩
            clear e9
            obtain ⟨u_42, eu_42⟩ : ∃ zz, zz = (if M_39.1 161 q1 = 0 then u_38 + q2 else u_38 + (q2 + 16)) := ⟨_, rfl⟩
            have hu_42 : u_42 ≤ u_38 + q2 + 16 := by rw [eu_42]; split <;> omega
            refine m_i (y := nI (u_42)) (by rw [ev_41, eu_42]; exact r_X12_sealsInto _ _ _ _ _ _) ?_
            refine lv_istore (lv' := [(4, .int (nI (u_42))), (3, .int (nI (352 * q1))), (0, .ref (r (117))), (1, .int (nI (q1))), (2, .int (nI (q2)))]) C.1 C.2.1 dX12_write_170 hl (by decide) rfl (fun ls hl => ?_)
            refine lv_aload_n C.1 C.2.1 dX12_write_172 rfl (lv_at hl 2 rfl) ?_
            refine lv_iload_n C.1 C.2.1 dX12_write_173 rfl (lv_at hl 3 rfl) ?_
            refine m_cvv C w hl cvX12_435 (k := 117) (by decide) rfl (q := (RX12, TX12, 58)) rfl rfl (As := [.int (nI (q1))]) (rest := []) (c_X12_goesOn l D b0 r M_40 q1 (by omega)) rfl rfl (Nat.le_of_ble_eq_true rfl) ⟨Nat.le_of_ble_eq_true rfl, Nat.le_of_ble_eq_true rfl⟩ ⟨Nat.zero_le _, Nat.zero_le _⟩ dX12_write_174 (fun M_43 H locs eM_43 w => ?_)
            refine lv_aload_n C.1 C.2.1 dX12_write_177 rfl (lv_at hl 2 rfl) ?_
            refine lv_aload_n C.1 C.2.1 dX12_write_178 rfl (lv_at hl 2 rfl) ?_
            refine m_get C w (k := 117) (j := 2) (v := .ref (r (120))) flX12_16 (by decide) rfl rfl dX12_write_179 ?_
            refine lv_iload C.1 C.2.1 dX12_write_182 (lv_at hl 0 rfl) ?_
            refine m_cvi C w hl cvX12_388 (k := 117) (by decide) rfl (q := (RX12, TX12, 58)) rfl rfl (As := [.ref (r (120)), .int (nI (u_42))]) (rest := []) (c_X12_tells l D b0 r M_43 120 u_42 (by decide) rfl (by decide) (by omega) (by omega) (by omega)) rfl rfl (Nat.le_of_ble_eq_true rfl) ⟨Nat.le_of_ble_eq_true rfl, Nat.le_of_ble_eq_true rfl⟩ ⟨Nat.zero_le _, Nat.zero_le _⟩ dX12_write_184 (fun v_45 M_44 H locs e9 w => ?_)
            obtain ⟨ev_45, eM_44⟩ : v_45 = (f_X12_tells 120 u_42 M_43).1 ∧ M_44 = (f_X12_tells 120 u_42 M_43).2 := ⟨congrArg Prod.fst e9, congrArg Prod.snd e9⟩
            clear e9
            exact m_iret C w (by subst eq1 eq2 eM_6 eM_28 ev_37 eM_36 eu_38 eM_39 ev_41 eM_40 eu_42 eM_43 ev_45 eM_44; exact Eq.symm (((if_pos hS).trans ((if_pos h_8).trans ((if_pos h_9).trans ((if_neg (fun q => q h_10)).trans ((if_neg h_29).trans rfl))))))) dX12_write_187
      · refine lv_aload_n C.1 C.2.1 dX12_write_63 rfl (lv_at hl 2 rfl) ?_
        refine m_get C w (k := 117) (j := 42) (v := .ref (r (157))) flX12_201 (by decide) rfl rfl dX12_write_64 ?_
        refine lv_iload_n C.1 C.2.1 dX12_write_67 rfl (lv_at hl 1 rfl) ?_
        refine lv_sipush (v := 256) C.1 C.2.1 dX12_write_68 (by decide) ?_
        refine lv_iadd C.1 C.2.1 dX12_write_71 ?_
        refine m_i (y := nI (352 * q1 + 256)) (nI_add (352 * q1) 256) ?_
        refine lv_aload_n C.1 C.2.1 dX12_write_72 rfl (lv_at hl 2 rfl) ?_
        refine m_get C w (k := 117) (j := 2) (v := .ref (r (120))) flX12_16 (by decide) rfl rfl dX12_write_73 ?_
        refine lv_iconst (v := 0) C.1 C.2.1 dX12_write_76 (by decide) ?_
        refine lv_bipush (v := 32) C.1 C.2.1 dX12_write_77 (by decide) ?_
        refine m_csv C w hl csX12_265 (As := [.ref (r (157)), .int (nI (352 * q1 + 256)), .ref (r (120)), .int 0, .int 32]) (rest := []) (c_X12_copy l D b0 r M_6 157 (352 * q1 + 256) 120 0 32 (by decide) rfl (by decide) (by omega) (by decide) rfl (by decide) (by omega) (by omega) (by omega)) rfl rfl (Nat.le_of_ble_eq_true rfl) ⟨Nat.le_of_ble_eq_true rfl, Nat.le_of_ble_eq_true rfl⟩ ⟨Nat.zero_le _, Nat.zero_le _⟩ dX12_write_79 (fun M_46 H locs eM_46 w => ?_)
        refine lv_aload_n C.1 C.2.1 dX12_write_82 rfl (lv_at hl 2 rfl) ?_
        refine lv_iload_n C.1 C.2.1 dX12_write_83 rfl (lv_at hl 3 rfl) ?_
        refine lv_aload_n C.1 C.2.1 dX12_write_84 rfl (lv_at hl 2 rfl) ?_
        refine m_get C w (k := 117) (j := 2) (v := .ref (r (120))) flX12_16 (by decide) rfl rfl dX12_write_85 ?_
        refine lv_iconst (v := 0) C.1 C.2.1 dX12_write_88 (by decide) ?_
        refine lv_bipush (v := 32) C.1 C.2.1 dX12_write_89 (by decide) ?_
        refine m_cvv C w hl cvX12_410 (k := 117) (by decide) rfl (q := (RX12, TX12, 58)) rfl rfl (As := [.int (nI (q1)), .ref (r (120)), .int 0, .int 32]) (rest := []) (c_X12_mixHash l D b0 r M_46 q1 120 0 32 (by omega) (by decide) rfl (by decide) (by omega) (by omega) (by omega)) rfl rfl (Nat.le_of_ble_eq_true rfl) ⟨Nat.le_of_ble_eq_true rfl, Nat.le_of_ble_eq_true rfl⟩ ⟨Nat.zero_le _, Nat.zero_le _⟩ dX12_write_91 (fun M_47 H locs eM_47 w => ?_)
        refine lv_bipush (v := 32) C.1 C.2.1 dX12_write_94 (by decide) ?_
        refine lv_istore (lv' := [(4, .int 32), (3, .int (nI (352 * q1))), (0, .ref (r (117))), (1, .int (nI (q1))), (2, .int (nI (q2)))]) C.1 C.2.1 dX12_write_96 hl (by decide) rfl (fun ls hl => ?_)
        refine lv_aload_n C.1 C.2.1 dX12_write_98 rfl (lv_at hl 2 rfl) ?_
        refine m_get C w (k := 117) (j := 49) (v := .ref (r (164))) flX12_223 (by decide) rfl rfl dX12_write_99 ?_
        refine lv_iload_n C.1 C.2.1 dX12_write_102 rfl (lv_at hl 3 rfl) ?_
        refine m_iald C w (k := 164) (i := q1) (n := 4) (wr := true) (by decide) rfl (by omega) (by decide) dX12_write_103 ?_
        refine lv_iconst (v := 1) C.1 C.2.1 dX12_write_104 (by decide) ?_
        refine lv_icmp_ne (tgt := 118) C.1 C.2.1 dX12_write_105 (by decide) (fun h_48 => ?_) (fun h_48 => ?_)
        · refine lv_aload_n C.1 C.2.1 dX12_write_118 rfl (lv_at hl 2 rfl) ?_
          refine m_get C w (k := 117) (j := 49) (v := .ref (r (164))) flX12_223 (by decide) rfl rfl dX12_write_119 ?_
          refine lv_iload_n C.1 C.2.1 dX12_write_122 rfl (lv_at hl 3 rfl) ?_
          refine m_iald C w (k := 164) (i := q1) (n := 4) (wr := true) (by decide) rfl (by omega) (by decide) dX12_write_123 ?_
          refine lv_if_le (tgt := 157) C.1 C.2.1 dX12_write_124 (by decide) (fun h_49 => ?_) (fun h_49 => ?_)
          · refine lv_aload_n C.1 C.2.1 dX12_write_157 rfl (lv_at hl 2 rfl) ?_
            refine lv_iload_n C.1 C.2.1 dX12_write_158 rfl (lv_at hl 3 rfl) ?_
            refine lv_aload_n C.1 C.2.1 dX12_write_159 rfl (lv_at hl 2 rfl) ?_
            refine m_get C w (k := 117) (j := 1) (v := .ref (r (119))) flX12_13 (by decide) rfl rfl dX12_write_160 ?_
            refine lv_iconst (v := 0) C.1 C.2.1 dX12_write_163 (by decide) ?_
            refine lv_iload_n C.1 C.2.1 dX12_write_164 rfl (lv_at hl 4 rfl) ?_
            refine lv_iload C.1 C.2.1 dX12_write_165 (lv_at hl 0 rfl) ?_
            refine m_cvi C w hl cvX12_431 (k := 117) (by decide) rfl (q := (RX12, TX12, 58)) rfl rfl (As := [.int (nI (q1)), .ref (r (119)), .int 0, .int (nI (q2)), .int 32]) (rest := []) (c_X12_sealsInto l D b0 r M_47 q1 119 0 q2 32 (by omega) (by decide) rfl (by decide) (by omega) (by omega) (by omega)) rfl rfl (Nat.le_of_ble_eq_true rfl) ⟨Nat.le_of_ble_eq_true rfl, Nat.le_of_ble_eq_true rfl⟩ ⟨Nat.zero_le _, Nat.zero_le _⟩ dX12_write_167 (fun v_51 M_50 H locs e9 w => ?_)
            obtain ⟨ev_51, eM_50⟩ : v_51 = (f_X12_sealsInto q1 119 0 q2 32 M_47).1 ∧ M_50 = (f_X12_sealsInto q1 119 0 q2 32 M_47).2 := ⟨congrArg Prod.fst e9, congrArg Prod.snd e9⟩
            clear e9
            obtain ⟨u_52, eu_52⟩ : ∃ zz, zz = (if M_47.1 161 q1 = 0 then 32 + q2 else 32 + (q2 + 16)) := ⟨_, rfl⟩
            have hu_52 : u_52 ≤ 32 + q2 + 16 := by rw [eu_52]; split <;> omega
            refine m_i (y := nI (u_52)) (by rw [ev_51, eu_52]; exact r_X12_sealsInto _ _ _ _ _ _) ?_
            refine lv_istore (lv' := [(4, .int (nI (u_52))), (3, .int (nI (352 * q1))), (0, .ref (r (117))), (1, .int (nI (q1))), (2, .int (nI (q2)))]) C.1 C.2.1 dX12_write_170 hl (by decide) rfl (fun ls hl => ?_)
            refine lv_aload_n C.1 C.2.1 dX12_write_172 rfl (lv_at hl 2 rfl) ?_
            refine lv_iload_n C.1 C.2.1 dX12_write_173 rfl (lv_at hl 3 rfl) ?_
            refine m_cvv C w hl cvX12_435 (k := 117) (by decide) rfl (q := (RX12, TX12, 58)) rfl rfl (As := [.int (nI (q1))]) (rest := []) (c_X12_goesOn l D b0 r M_50 q1 (by omega)) rfl rfl (Nat.le_of_ble_eq_true rfl) ⟨Nat.le_of_ble_eq_true rfl, Nat.le_of_ble_eq_true rfl⟩ ⟨Nat.zero_le _, Nat.zero_le _⟩ dX12_write_174 (fun M_53 H locs eM_53 w => ?_)
            refine lv_aload_n C.1 C.2.1 dX12_write_177 rfl (lv_at hl 2 rfl) ?_
            refine lv_aload_n C.1 C.2.1 dX12_write_178 rfl (lv_at hl 2 rfl) ?_
            refine m_get C w (k := 117) (j := 2) (v := .ref (r (120))) flX12_16 (by decide) rfl rfl dX12_write_179 ?_
            refine lv_iload C.1 C.2.1 dX12_write_182 (lv_at hl 0 rfl) ?_
            refine m_cvi C w hl cvX12_388 (k := 117) (by decide) rfl (q := (RX12, TX12, 58)) rfl rfl (As := [.ref (r (120)), .int (nI (u_52))]) (rest := []) (c_X12_tells l D b0 r M_53 120 u_52 (by decide) rfl (by decide) (by omega) (by omega) (by omega)) rfl rfl (Nat.le_of_ble_eq_true rfl) ⟨Nat.le_of_ble_eq_true rfl, Nat.le_of_ble_eq_true rfl⟩ ⟨Nat.zero_le _, Nat.zero_le _⟩ dX12_write_184 (fun v_55 M_54 H locs e9 w => ?_)
            obtain ⟨ev_55, eM_54⟩ : v_55 = (f_X12_tells 120 u_52 M_53).1 ∧ M_54 = (f_X12_tells 120 u_52 M_53).2 := ⟨congrArg Prod.fst e9, congrArg Prod.snd e9⟩
            clear e9
            exact m_iret C w (by subst eq1 eq2 eM_6 eM_46 eM_47 ev_51 eM_50 eu_52 eM_53 ev_55 eM_54; exact Eq.symm (((if_pos hS).trans ((if_pos h_8).trans ((if_neg h_9).trans ((if_pos h_48).trans ((if_pos h_49).trans rfl))))))) dX12_write_187
          · refine lv_aload_n C.1 C.2.1 dX12_write_127 rfl (lv_at hl 2 rfl) ?_
            refine lv_iload_n C.1 C.2.1 dX12_write_128 rfl (lv_at hl 3 rfl) ?_
            refine lv_aload_n C.1 C.2.1 dX12_write_129 rfl (lv_at hl 2 rfl) ?_
            refine m_get C w (k := 117) (j := 42) (v := .ref (r (157))) flX12_201 (by decide) rfl rfl dX12_write_130 ?_
            refine lv_iload_n C.1 C.2.1 dX12_write_133 rfl (lv_at hl 1 rfl) ?_
            refine lv_sipush (v := 192) C.1 C.2.1 dX12_write_134 (by decide) ?_
            refine lv_iadd C.1 C.2.1 dX12_write_137 ?_
            refine m_i (y := nI (352 * q1 + 192)) (nI_add (352 * q1) 192) ?_
            refine lv_bipush (v := 32) C.1 C.2.1 dX12_write_138 (by decide) ?_
            refine lv_iload C.1 C.2.1 dX12_write_140 (lv_at hl 0 rfl) ?_
            refine m_cvi C w hl cvX12_431 (k := 117) (by decide) rfl (q := (RX12, TX12, 58)) rfl rfl (As := [.int (nI (q1)), .ref (r (157)), .int (nI (352 * q1 + 192)), .int 32, .int 32]) (rest := []) (c_X12_sealsInto l D b0 r M_47 q1 157 (352 * q1 + 192) 32 32 (by omega) (by decide) rfl (by decide) (by omega) (by omega) (by omega)) rfl rfl (Nat.le_of_ble_eq_true rfl) ⟨Nat.le_of_ble_eq_true rfl, Nat.le_of_ble_eq_true rfl⟩ ⟨Nat.zero_le _, Nat.zero_le _⟩ dX12_write_142 (fun v_57 M_56 H locs e9 w => ?_)
            obtain ⟨ev_57, eM_56⟩ : v_57 = (f_X12_sealsInto q1 157 (352 * q1 + 192) 32 32 M_47).1 ∧ M_56 = (f_X12_sealsInto q1 157 (352 * q1 + 192) 32 32 M_47).2 := ⟨congrArg Prod.fst e9, congrArg Prod.snd e9⟩
            clear e9
            obtain ⟨u_58, eu_58⟩ : ∃ zz, zz = (if M_47.1 161 q1 = 0 then 32 + 32 else 32 + (32 + 16)) := ⟨_, rfl⟩
            have hu_58 : u_58 ≤ 32 + 32 + 16 := by rw [eu_58]; split <;> omega
            refine m_i (y := nI (u_58)) (by rw [ev_57, eu_58]; exact r_X12_sealsInto _ _ _ _ _ _) ?_
            refine lv_istore (lv' := [(4, .int (nI (u_58))), (3, .int (nI (352 * q1))), (0, .ref (r (117))), (1, .int (nI (q1))), (2, .int (nI (q2)))]) C.1 C.2.1 dX12_write_145 hl (by decide) rfl (fun ls hl => ?_)
            refine lv_aload_n C.1 C.2.1 dX12_write_147 rfl (lv_at hl 2 rfl) ?_
            refine lv_iload_n C.1 C.2.1 dX12_write_148 rfl (lv_at hl 3 rfl) ?_
            refine lv_sipush (v := 160) C.1 C.2.1 dX12_write_149 (by decide) ?_
            refine lv_bipush (v := 96) C.1 C.2.1 dX12_write_152 (by decide) ?_
            refine m_cvv C w hl cvX12_427 (k := 117) (by decide) rfl (q := (RX12, TX12, 58)) rfl rfl (As := [.int (nI (q1)), .int 160, .int 96]) (rest := []) (c_X12_agrees l D b0 r M_56 q1 160 96 (by omega) (by omega) (by omega)) rfl rfl (Nat.le_of_ble_eq_true rfl) ⟨Nat.le_of_ble_eq_true rfl, Nat.le_of_ble_eq_true rfl⟩ ⟨Nat.zero_le _, Nat.zero_le _⟩ dX12_write_154 (fun M_59 H locs eM_59 w => ?_)
            refine lv_aload_n C.1 C.2.1 dX12_write_157 rfl (lv_at hl 2 rfl) ?_
            refine lv_iload_n C.1 C.2.1 dX12_write_158 rfl (lv_at hl 3 rfl) ?_
            refine lv_aload_n C.1 C.2.1 dX12_write_159 rfl (lv_at hl 2 rfl) ?_
            refine m_get C w (k := 117) (j := 1) (v := .ref (r (119))) flX12_13 (by decide) rfl rfl dX12_write_160 ?_
            refine lv_iconst (v := 0) C.1 C.2.1 dX12_write_163 (by decide) ?_
            refine lv_iload_n C.1 C.2.1 dX12_write_164 rfl (lv_at hl 4 rfl) ?_
            refine lv_iload C.1 C.2.1 dX12_write_165 (lv_at hl 0 rfl) ?_
            refine m_cvi C w hl cvX12_431 (k := 117) (by decide) rfl (q := (RX12, TX12, 58)) rfl rfl (As := [.int (nI (q1)), .ref (r (119)), .int 0, .int (nI (q2)), .int (nI (u_58))]) (rest := []) (c_X12_sealsInto l D b0 r M_59 q1 119 0 q2 u_58 (by omega) (by decide) rfl (by decide) (by omega) (by omega) (by omega)) rfl rfl (Nat.le_of_ble_eq_true rfl) ⟨Nat.le_of_ble_eq_true rfl, Nat.le_of_ble_eq_true rfl⟩ ⟨Nat.zero_le _, Nat.zero_le _⟩ dX12_write_167 (fun v_61 M_60 H locs e9 w => ?_)
            obtain ⟨ev_61, eM_60⟩ : v_61 = (f_X12_sealsInto q1 119 0 q2 u_58 M_59).1 ∧ M_60 = (f_X12_sealsInto q1 119 0 q2 u_58 M_59).2 := ⟨congrArg Prod.fst e9, congrArg Prod.snd e9⟩
            clear e9
            obtain ⟨u_62, eu_62⟩ : ∃ zz, zz = (if M_59.1 161 q1 = 0 then u_58 + q2 else u_58 + (q2 + 16)) := ⟨_, rfl⟩
            have hu_62 : u_62 ≤ u_58 + q2 + 16 := by rw [eu_62]; split <;> omega
            refine m_i (y := nI (u_62)) (by rw [ev_61, eu_62]; exact r_X12_sealsInto _ _ _ _ _ _) ?_
            refine lv_istore (lv' := [(4, .int (nI (u_62))), (3, .int (nI (352 * q1))), (0, .ref (r (117))), (1, .int (nI (q1))), (2, .int (nI (q2)))]) C.1 C.2.1 dX12_write_170 hl (by decide) rfl (fun ls hl => ?_)
            refine lv_aload_n C.1 C.2.1 dX12_write_172 rfl (lv_at hl 2 rfl) ?_
            refine lv_iload_n C.1 C.2.1 dX12_write_173 rfl (lv_at hl 3 rfl) ?_
            refine m_cvv C w hl cvX12_435 (k := 117) (by decide) rfl (q := (RX12, TX12, 58)) rfl rfl (As := [.int (nI (q1))]) (rest := []) (c_X12_goesOn l D b0 r M_60 q1 (by omega)) rfl rfl (Nat.le_of_ble_eq_true rfl) ⟨Nat.le_of_ble_eq_true rfl, Nat.le_of_ble_eq_true rfl⟩ ⟨Nat.zero_le _, Nat.zero_le _⟩ dX12_write_174 (fun M_63 H locs eM_63 w => ?_)
            refine lv_aload_n C.1 C.2.1 dX12_write_177 rfl (lv_at hl 2 rfl) ?_
            refine lv_aload_n C.1 C.2.1 dX12_write_178 rfl (lv_at hl 2 rfl) ?_
            refine m_get C w (k := 117) (j := 2) (v := .ref (r (120))) flX12_16 (by decide) rfl rfl dX12_write_179 ?_
            refine lv_iload C.1 C.2.1 dX12_write_182 (lv_at hl 0 rfl) ?_
            refine m_cvi C w hl cvX12_388 (k := 117) (by decide) rfl (q := (RX12, TX12, 58)) rfl rfl (As := [.ref (r (120)), .int (nI (u_62))]) (rest := []) (c_X12_tells l D b0 r M_63 120 u_62 (by decide) rfl (by decide) (by omega) (by omega) (by omega)) rfl rfl (Nat.le_of_ble_eq_true rfl) ⟨Nat.le_of_ble_eq_true rfl, Nat.le_of_ble_eq_true rfl⟩ ⟨Nat.zero_le _, Nat.zero_le _⟩ dX12_write_184 (fun v_65 M_64 H locs e9 w => ?_)
            obtain ⟨ev_65, eM_64⟩ : v_65 = (f_X12_tells 120 u_62 M_63).1 ∧ M_64 = (f_X12_tells 120 u_62 M_63).2 := ⟨congrArg Prod.fst e9, congrArg Prod.snd e9⟩
            clear e9
            exact m_iret C w (by subst eq1 eq2 eM_6 eM_46 eM_47 ev_57 eM_56 eu_58 eM_59 ev_61 eM_60 eu_62 eM_63 ev_65 eM_64; exact Eq.symm (((if_pos hS).trans ((if_pos h_8).trans ((if_neg h_9).trans ((if_pos h_48).trans ((if_neg h_49).trans rfl))))))) dX12_write_187
        · refine lv_aload_n C.1 C.2.1 dX12_write_108 rfl (lv_at hl 2 rfl) ?_
          refine lv_iload_n C.1 C.2.1 dX12_write_109 rfl (lv_at hl 3 rfl) ?_
          refine lv_sipush (v := 224) C.1 C.2.1 dX12_write_110 (by decide) ?_
          refine lv_bipush (v := 96) C.1 C.2.1 dX12_write_113 (by decide) ?_
          refine m_cvv C w hl cvX12_427 (k := 117) (by decide) rfl (q := (RX12, TX12, 58)) rfl rfl (As := [.int (nI (q1)), .int 224, .int 96]) (rest := []) (c_X12_agrees l D b0 r M_47 q1 224 96 (by omega) (by omega) (by omega)) rfl rfl (Nat.le_of_ble_eq_true rfl) ⟨Nat.le_of_ble_eq_true rfl, Nat.le_of_ble_eq_true rfl⟩ ⟨Nat.zero_le _, Nat.zero_le _⟩ dX12_write_115 (fun M_66 H locs eM_66 w => ?_)
          refine lv_aload_n C.1 C.2.1 dX12_write_118 rfl (lv_at hl 2 rfl) ?_
          refine m_get C w (k := 117) (j := 49) (v := .ref (r (164))) flX12_223 (by decide) rfl rfl dX12_write_119 ?_
          refine lv_iload_n C.1 C.2.1 dX12_write_122 rfl (lv_at hl 3 rfl) ?_
          refine m_iald C w (k := 164) (i := q1) (n := 4) (wr := true) (by decide) rfl (by omega) (by decide) dX12_write_123 ?_
          refine lv_if_le (tgt := 157) C.1 C.2.1 dX12_write_124 (by decide) (fun h_67 => ?_) (fun h_67 => ?_)
          · refine lv_aload_n C.1 C.2.1 dX12_write_157 rfl (lv_at hl 2 rfl) ?_
            refine lv_iload_n C.1 C.2.1 dX12_write_158 rfl (lv_at hl 3 rfl) ?_
            refine lv_aload_n C.1 C.2.1 dX12_write_159 rfl (lv_at hl 2 rfl) ?_
            refine m_get C w (k := 117) (j := 1) (v := .ref (r (119))) flX12_13 (by decide) rfl rfl dX12_write_160 ?_
            refine lv_iconst (v := 0) C.1 C.2.1 dX12_write_163 (by decide) ?_
            refine lv_iload_n C.1 C.2.1 dX12_write_164 rfl (lv_at hl 4 rfl) ?_
            refine lv_iload C.1 C.2.1 dX12_write_165 (lv_at hl 0 rfl) ?_
            refine m_cvi C w hl cvX12_431 (k := 117) (by decide) rfl (q := (RX12, TX12, 58)) rfl rfl (As := [.int (nI (q1)), .ref (r (119)), .int 0, .int (nI (q2)), .int 32]) (rest := []) (c_X12_sealsInto l D b0 r M_66 q1 119 0 q2 32 (by omega) (by decide) rfl (by decide) (by omega) (by omega) (by omega)) rfl rfl (Nat.le_of_ble_eq_true rfl) ⟨Nat.le_of_ble_eq_true rfl, Nat.le_of_ble_eq_true rfl⟩ ⟨Nat.zero_le _, Nat.zero_le _⟩ dX12_write_167 (fun v_69 M_68 H locs e9 w => ?_)
            obtain ⟨ev_69, eM_68⟩ : v_69 = (f_X12_sealsInto q1 119 0 q2 32 M_66).1 ∧ M_68 = (f_X12_sealsInto q1 119 0 q2 32 M_66).2 := ⟨congrArg Prod.fst e9, congrArg Prod.snd e9⟩
            clear e9
            obtain ⟨u_70, eu_70⟩ : ∃ zz, zz = (if M_66.1 161 q1 = 0 then 32 + q2 else 32 + (q2 + 16)) := ⟨_, rfl⟩
            have hu_70 : u_70 ≤ 32 + q2 + 16 := by rw [eu_70]; split <;> omega
            refine m_i (y := nI (u_70)) (by rw [ev_69, eu_70]; exact r_X12_sealsInto _ _ _ _ _ _) ?_
            refine lv_istore (lv' := [(4, .int (nI (u_70))), (3, .int (nI (352 * q1))), (0, .ref (r (117))), (1, .int (nI (q1))), (2, .int (nI (q2)))]) C.1 C.2.1 dX12_write_170 hl (by decide) rfl (fun ls hl => ?_)
            refine lv_aload_n C.1 C.2.1 dX12_write_172 rfl (lv_at hl 2 rfl) ?_
            refine lv_iload_n C.1 C.2.1 dX12_write_173 rfl (lv_at hl 3 rfl) ?_
            refine m_cvv C w hl cvX12_435 (k := 117) (by decide) rfl (q := (RX12, TX12, 58)) rfl rfl (As := [.int (nI (q1))]) (rest := []) (c_X12_goesOn l D b0 r M_68 q1 (by omega)) rfl rfl (Nat.le_of_ble_eq_true rfl) ⟨Nat.le_of_ble_eq_true rfl, Nat.le_of_ble_eq_true rfl⟩ ⟨Nat.zero_le _, Nat.zero_le _⟩ dX12_write_174 (fun M_71 H locs eM_71 w => ?_)
            refine lv_aload_n C.1 C.2.1 dX12_write_177 rfl (lv_at hl 2 rfl) ?_
            refine lv_aload_n C.1 C.2.1 dX12_write_178 rfl (lv_at hl 2 rfl) ?_
            refine m_get C w (k := 117) (j := 2) (v := .ref (r (120))) flX12_16 (by decide) rfl rfl dX12_write_179 ?_
            refine lv_iload C.1 C.2.1 dX12_write_182 (lv_at hl 0 rfl) ?_
            refine m_cvi C w hl cvX12_388 (k := 117) (by decide) rfl (q := (RX12, TX12, 58)) rfl rfl (As := [.ref (r (120)), .int (nI (u_70))]) (rest := []) (c_X12_tells l D b0 r M_71 120 u_70 (by decide) rfl (by decide) (by omega) (by omega) (by omega)) rfl rfl (Nat.le_of_ble_eq_true rfl) ⟨Nat.le_of_ble_eq_true rfl, Nat.le_of_ble_eq_true rfl⟩ ⟨Nat.zero_le _, Nat.zero_le _⟩ dX12_write_184 (fun v_73 M_72 H locs e9 w => ?_)
            obtain ⟨ev_73, eM_72⟩ : v_73 = (f_X12_tells 120 u_70 M_71).1 ∧ M_72 = (f_X12_tells 120 u_70 M_71).2 := ⟨congrArg Prod.fst e9, congrArg Prod.snd e9⟩
            clear e9
            exact m_iret C w (by subst eq1 eq2 eM_6 eM_46 eM_47 eM_66 ev_69 eM_68 eu_70 eM_71 ev_73 eM_72; exact Eq.symm (((if_pos hS).trans ((if_pos h_8).trans ((if_neg h_9).trans ((if_neg (fun q => q h_48)).trans ((if_pos h_67).trans rfl))))))) dX12_write_187
          · refine lv_aload_n C.1 C.2.1 dX12_write_127 rfl (lv_at hl 2 rfl) ?_
            refine lv_iload_n C.1 C.2.1 dX12_write_128 rfl (lv_at hl 3 rfl) ?_
            refine lv_aload_n C.1 C.2.1 dX12_write_129 rfl (lv_at hl 2 rfl) ?_
            refine m_get C w (k := 117) (j := 42) (v := .ref (r (157))) flX12_201 (by decide) rfl rfl dX12_write_130 ?_
            refine lv_iload_n C.1 C.2.1 dX12_write_133 rfl (lv_at hl 1 rfl) ?_
            refine lv_sipush (v := 192) C.1 C.2.1 dX12_write_134 (by decide) ?_
            refine lv_iadd C.1 C.2.1 dX12_write_137 ?_
            refine m_i (y := nI (352 * q1 + 192)) (nI_add (352 * q1) 192) ?_
            refine lv_bipush (v := 32) C.1 C.2.1 dX12_write_138 (by decide) ?_
            refine lv_iload C.1 C.2.1 dX12_write_140 (lv_at hl 0 rfl) ?_
            refine m_cvi C w hl cvX12_431 (k := 117) (by decide) rfl (q := (RX12, TX12, 58)) rfl rfl (As := [.int (nI (q1)), .ref (r (157)), .int (nI (352 * q1 + 192)), .int 32, .int 32]) (rest := []) (c_X12_sealsInto l D b0 r M_66 q1 157 (352 * q1 + 192) 32 32 (by omega) (by decide) rfl (by decide) (by omega) (by omega) (by omega)) rfl rfl (Nat.le_of_ble_eq_true rfl) ⟨Nat.le_of_ble_eq_true rfl, Nat.le_of_ble_eq_true rfl⟩ ⟨Nat.zero_le _, Nat.zero_le _⟩ dX12_write_142 (fun v_75 M_74 H locs e9 w => ?_)
            obtain ⟨ev_75, eM_74⟩ : v_75 = (f_X12_sealsInto q1 157 (352 * q1 + 192) 32 32 M_66).1 ∧ M_74 = (f_X12_sealsInto q1 157 (352 * q1 + 192) 32 32 M_66).2 := ⟨congrArg Prod.fst e9, congrArg Prod.snd e9⟩
            clear e9
            obtain ⟨u_76, eu_76⟩ : ∃ zz, zz = (if M_66.1 161 q1 = 0 then 32 + 32 else 32 + (32 + 16)) := ⟨_, rfl⟩
            have hu_76 : u_76 ≤ 32 + 32 + 16 := by rw [eu_76]; split <;> omega
            refine m_i (y := nI (u_76)) (by rw [ev_75, eu_76]; exact r_X12_sealsInto _ _ _ _ _ _) ?_
            refine lv_istore (lv' := [(4, .int (nI (u_76))), (3, .int (nI (352 * q1))), (0, .ref (r (117))), (1, .int (nI (q1))), (2, .int (nI (q2)))]) C.1 C.2.1 dX12_write_145 hl (by decide) rfl (fun ls hl => ?_)
            refine lv_aload_n C.1 C.2.1 dX12_write_147 rfl (lv_at hl 2 rfl) ?_
            refine lv_iload_n C.1 C.2.1 dX12_write_148 rfl (lv_at hl 3 rfl) ?_
            refine lv_sipush (v := 160) C.1 C.2.1 dX12_write_149 (by decide) ?_
            refine lv_bipush (v := 96) C.1 C.2.1 dX12_write_152 (by decide) ?_
            refine m_cvv C w hl cvX12_427 (k := 117) (by decide) rfl (q := (RX12, TX12, 58)) rfl rfl (As := [.int (nI (q1)), .int 160, .int 96]) (rest := []) (c_X12_agrees l D b0 r M_74 q1 160 96 (by omega) (by omega) (by omega)) rfl rfl (Nat.le_of_ble_eq_true rfl) ⟨Nat.le_of_ble_eq_true rfl, Nat.le_of_ble_eq_true rfl⟩ ⟨Nat.zero_le _, Nat.zero_le _⟩ dX12_write_154 (fun M_77 H locs eM_77 w => ?_)
            refine lv_aload_n C.1 C.2.1 dX12_write_157 rfl (lv_at hl 2 rfl) ?_
            refine lv_iload_n C.1 C.2.1 dX12_write_158 rfl (lv_at hl 3 rfl) ?_
            refine lv_aload_n C.1 C.2.1 dX12_write_159 rfl (lv_at hl 2 rfl) ?_
            refine m_get C w (k := 117) (j := 1) (v := .ref (r (119))) flX12_13 (by decide) rfl rfl dX12_write_160 ?_
            refine lv_iconst (v := 0) C.1 C.2.1 dX12_write_163 (by decide) ?_
            refine lv_iload_n C.1 C.2.1 dX12_write_164 rfl (lv_at hl 4 rfl) ?_
            refine lv_iload C.1 C.2.1 dX12_write_165 (lv_at hl 0 rfl) ?_
            refine m_cvi C w hl cvX12_431 (k := 117) (by decide) rfl (q := (RX12, TX12, 58)) rfl rfl (As := [.int (nI (q1)), .ref (r (119)), .int 0, .int (nI (q2)), .int (nI (u_76))]) (rest := []) (c_X12_sealsInto l D b0 r M_77 q1 119 0 q2 u_76 (by omega) (by decide) rfl (by decide) (by omega) (by omega) (by omega)) rfl rfl (Nat.le_of_ble_eq_true rfl) ⟨Nat.le_of_ble_eq_true rfl, Nat.le_of_ble_eq_true rfl⟩ ⟨Nat.zero_le _, Nat.zero_le _⟩ dX12_write_167 (fun v_79 M_78 H locs e9 w => ?_)
            obtain ⟨ev_79, eM_78⟩ : v_79 = (f_X12_sealsInto q1 119 0 q2 u_76 M_77).1 ∧ M_78 = (f_X12_sealsInto q1 119 0 q2 u_76 M_77).2 := ⟨congrArg Prod.fst e9, congrArg Prod.snd e9⟩
            clear e9
            obtain ⟨u_80, eu_80⟩ : ∃ zz, zz = (if M_77.1 161 q1 = 0 then u_76 + q2 else u_76 + (q2 + 16)) := ⟨_, rfl⟩
            have hu_80 : u_80 ≤ u_76 + q2 + 16 := by rw [eu_80]; split <;> omega
            refine m_i (y := nI (u_80)) (by rw [ev_79, eu_80]; exact r_X12_sealsInto _ _ _ _ _ _) ?_
            refine lv_istore (lv' := [(4, .int (nI (u_80))), (3, .int (nI (352 * q1))), (0, .ref (r (117))), (1, .int (nI (q1))), (2, .int (nI (q2)))]) C.1 C.2.1 dX12_write_170 hl (by decide) rfl (fun ls hl => ?_)
            refine lv_aload_n C.1 C.2.1 dX12_write_172 rfl (lv_at hl 2 rfl) ?_
            refine lv_iload_n C.1 C.2.1 dX12_write_173 rfl (lv_at hl 3 rfl) ?_
            refine m_cvv C w hl cvX12_435 (k := 117) (by decide) rfl (q := (RX12, TX12, 58)) rfl rfl (As := [.int (nI (q1))]) (rest := []) (c_X12_goesOn l D b0 r M_78 q1 (by omega)) rfl rfl (Nat.le_of_ble_eq_true rfl) ⟨Nat.le_of_ble_eq_true rfl, Nat.le_of_ble_eq_true rfl⟩ ⟨Nat.zero_le _, Nat.zero_le _⟩ dX12_write_174 (fun M_81 H locs eM_81 w => ?_)
            refine lv_aload_n C.1 C.2.1 dX12_write_177 rfl (lv_at hl 2 rfl) ?_
            refine lv_aload_n C.1 C.2.1 dX12_write_178 rfl (lv_at hl 2 rfl) ?_
            refine m_get C w (k := 117) (j := 2) (v := .ref (r (120))) flX12_16 (by decide) rfl rfl dX12_write_179 ?_
            refine lv_iload C.1 C.2.1 dX12_write_182 (lv_at hl 0 rfl) ?_
            refine m_cvi C w hl cvX12_388 (k := 117) (by decide) rfl (q := (RX12, TX12, 58)) rfl rfl (As := [.ref (r (120)), .int (nI (u_80))]) (rest := []) (c_X12_tells l D b0 r M_81 120 u_80 (by decide) rfl (by decide) (by omega) (by omega) (by omega)) rfl rfl (Nat.le_of_ble_eq_true rfl) ⟨Nat.le_of_ble_eq_true rfl, Nat.le_of_ble_eq_true rfl⟩ ⟨Nat.zero_le _, Nat.zero_le _⟩ dX12_write_184 (fun v_83 M_82 H locs e9 w => ?_)
            obtain ⟨ev_83, eM_82⟩ : v_83 = (f_X12_tells 120 u_80 M_81).1 ∧ M_82 = (f_X12_tells 120 u_80 M_81).2 := ⟨congrArg Prod.fst e9, congrArg Prod.snd e9⟩
            clear e9
            exact m_iret C w (by subst eq1 eq2 eM_6 eM_46 eM_47 eM_66 ev_75 eM_74 eu_76 eM_77 ev_79 eM_78 eu_80 eM_81 ev_83 eM_82; exact Eq.symm (((if_pos hS).trans ((if_pos h_8).trans ((if_neg h_9).trans ((if_neg (fun q => q h_48)).trans ((if_neg h_67).trans rfl))))))) dX12_write_187
    · refine lv_iconst (v := (-1)) C.1 C.2.1 dX12_write_42 (by decide) ?_
      exact m_iret C w (by subst eq1 eq2 eM_6; exact Eq.symm (((if_pos hS).trans ((if_neg (fun q => q h_8)).trans rfl)))) dX12_write_43
  · refine lv_aload_n C.1 C.2.1 dX12_write_0 rfl (lv_at hl 0 rfl) ?_
    refine lv_iload_n C.1 C.2.1 dX12_write_1 rfl (lv_at hl 1 rfl) ?_
    refine m_cvi C w hl cvX12_421 (k := 117) (by decide) rfl (q := (RX12, TX12, 58)) rfl rfl (As := [.int (v1)]) (rest := []) (c_X12_isSession l D b0 r M (v1) ) rfl rfl (Nat.le_of_ble_eq_true rfl) ⟨Nat.le_of_ble_eq_true rfl, Nat.le_of_ble_eq_true rfl⟩ ⟨Nat.zero_le _, Nat.zero_le _⟩ dX12_write_2 (fun v_84 M9 H locs e9 w => ?_)
    obtain ⟨ev_84, e9⟩ := e9
    rw [e9] at w
    subst ev_84
    refine lv_if_eq (tgt := 27) C.1 C.2.1 dX12_write_5 (by decide) (fun h_85 => ?_) (fun h_85 => ?_)
    · refine lv_bipush (v := (-2)) C.1 C.2.1 dX12_write_27 (by decide) ?_
      exact m_iret C w (by exact Eq.symm (((if_neg hS).trans ((if_pos h_85).trans rfl)))) dX12_write_29
    · refine lv_iload_n C.1 C.2.1 dX12_write_8 rfl (lv_at hl 2 rfl) ?_
      refine lv_iconst (v := 0) C.1 C.2.1 dX12_write_9 (by decide) ?_
      refine lv_sipush (v := 900) C.1 C.2.1 dX12_write_10 (by decide) ?_
      refine m_csi C w hl csX12_373 (As := [.int (v2), .int 0, .int 900]) (rest := []) (c_X12_in l D b0 r M (v2) (0 : Int32) (900 : Int32) ) rfl rfl (Nat.le_of_ble_eq_true rfl) ⟨Nat.le_of_ble_eq_true rfl, Nat.le_of_ble_eq_true rfl⟩ ⟨Nat.zero_le _, Nat.zero_le _⟩ dX12_write_13 (fun v_86 M9 H locs e9 w => ?_)
      obtain ⟨ev_86, e9⟩ := e9
      rw [e9] at w
      subst ev_86
      refine lv_if_eq (tgt := 27) C.1 C.2.1 dX12_write_16 (by decide) (fun h_87 => ?_) (fun h_87 => ?_)
      · refine lv_bipush (v := (-2)) C.1 C.2.1 dX12_write_27 (by decide) ?_
        exact m_iret C w (by exact Eq.symm (((if_neg hS).trans ((if_neg h_85).trans ((if_pos h_87).trans rfl))))) dX12_write_29
      · refine lv_iload_n C.1 C.2.1 dX12_write_19 rfl (lv_at hl 2 rfl) ?_
        refine lv_aload_n C.1 C.2.1 dX12_write_20 rfl (lv_at hl 0 rfl) ?_
        refine m_get C w (k := 117) (j := 4) (v := .int (M.1 117 4)) flX12_364 (by decide) rfl rfl dX12_write_21 ?_
        refine m_i (y := nI (ts)) h1 ?_
        refine lv_icmp_le (tgt := 30) C.1 C.2.1 dX12_write_24 (by decide) (fun h_88 => absurd h_88 (fun q => hS ⟨h_85, h_87, q⟩)) (fun _ => ?_)
        refine lv_bipush (v := (-2)) C.1 C.2.1 dX12_write_27 (by decide) ?_
        exact m_iret C w (by exact Eq.symm (((if_neg hS).trans ((if_neg h_85).trans ((if_neg h_87).trans rfl))))) dX12_write_29

section ldcw
variable {p : Program} {l : Launch} {e : Env} {R : Room} {s : State} {m : MethodId} {args : Array Value} {below : List Frame} {meth : Method} {c : Code} {H : Heap} {locs : List Loc} {cells slots : Nat} {Q : State → Prop} {cc : ByteArray} {pc : Nat} {ls : Array Slot} {rest : List Value}
theorem m_ldcwX {T : State} (X : Stand p l e R s m args below meth c T locs cells slots) (hexec : p.tables.exec = Jvm.exec) {own text : String} {index : Nat} {a : Addr} (hown : s.vm.findClass own = some m.cls)
    (hconst : (Cond.stringRef own index text).before args s = true) (hev : (Term.string own index).eval args s none [] s = some (.ref a)) {g : JFrame} (hg : g.method = m) (hdg : decode c.code g.pc = .ok (.ldc_w index, 3)) :
    ∀ target, Steps p.tables e below (T.setTop { g with pc := g.pc + 3, stack := .ref a :: g.stack }) target → Steps p.tables e below (T.setTop g) target := by
  obtain ⟨k, cf, i, a2, hk, hcf, hcp, -, hr, hev2⟩ := Cond.stringRef_spec hown hconst
  cases hev.symm.trans hev2
  obtain ⟨k2, hk2, he⟩ := X.warmed.alike.2.2 _ _ hk
  have hr2 : k2.resolved[index]? = some (some (.string a)) := by
    rcases X.warmed.entry hk hk2 index with h | ⟨h, -⟩
    · rw [h]; exact hr
    · rw [hr] at h; cases h
  intro target hrest
  subst hg
  jvm_step X.here [hexec, hdg, ldc_w.wp_string (e := e) (s := T) (f := g) X.here.top hk2 (by rw [he]; exact hcf) hcp hr2]
  exact hrest
theorem m_ldcwS (hexec : p.tables.exec = Jvm.exec) (hb : c.code = cc) {own tx : String} {index q : Nat} (hown : s.vm.findClass own = some m.cls) (hZ : vk_R own index tx q s) (hdg : decode cc pc = .ok (.ldc_w index, 3))
    (k : W p l e R s m args below meth c H locs cells slots Q (F0 m (pc + 3) ls (.ref q :: rest))) : W p l e R s m args below meth c H locs cells slots Q (F0 m pc ls rest) := by
  intro T hT X
  obtain ⟨t, a1, b1⟩ := k T hT X
  exact ⟨t, m_ldcwX X hexec hown (text := tx) (a := q) hZ.1 hZ.2 (g := F0 m pc ls rest) rfl (by rw [hb]; exact hdg) t a1, b1⟩
end ldcw

def f_X12_out (v1 : Int32) (rs : Nat) (M : mm_M) : Int32 :=
  if ¬ f_X12_in v1 0 (nI rs - 1) = 0 then (let q1 := (v1).toNatClampNeg
  ((M.1 121 q1) &&& (255 : Int32))) else ((-1 : Int32))
set_option maxHeartbeats 4000000 in
set_option maxRecDepth 100000 in
theorem c_X12_out (l : Launch) (D : va_G) (b0 : Nat) (r : Nat → Nat) (M : mm_M) (v1 : Int32) (rs : Nat) (hrs : rs ≤ 1000) (h3 : M.1 117 5 = nI rs) : mm_Mi l yX12_out cX12_out 2 .int 1 22 D b0 r [.ref (r (117)), .int (v1)] M (fun v M' => v = f_X12_out v1 rs M ∧ M' = M) := by
  refine mm_enter (cc := cX12_out) (nL := 2) (ret := (some .int)) (by decide) (Nat.le_of_ble_eq_true rfl) ?_
  intro p e s m args below meth c C w ls hl
  have hl : lv_has ls 2 [(0, .ref (r (117))), (1, .int (v1))] := hl
  by_cases hS : ¬ f_X12_in v1 0 (nI rs - 1) = 0
  · obtain ⟨q1, eq1⟩ : ∃ zz, zz = (v1).toNatClampNeg := ⟨_, rfl⟩
    obtain ⟨hvq1, hbq1⟩ : v1 = nI q1 ∧ q1 < rs := by rw [eq1]; exact g_inL (by omega) hS
    rw [hvq1] at hl
    have hTq1 : ¬ f_X12_in (nI q1) 0 (nI rs - 1) = 0 := by rw [← hvq1]; exact hS
    refine lv_iload_n C.1 C.2.1 dX12_out_0 rfl (lv_at hl 1 rfl) ?_
    refine lv_iconst (v := 0) C.1 C.2.1 dX12_out_1 (by decide) ?_
    refine lv_aload_n C.1 C.2.1 dX12_out_2 rfl (lv_at hl 0 rfl) ?_
    refine m_get C w (k := 117) (j := 5) (v := .int (M.1 117 5)) flX12_370 (by decide) rfl rfl dX12_out_3 ?_
    refine m_i (y := nI (rs)) h3 ?_
    refine lv_iconst (v := 1) C.1 C.2.1 dX12_out_6 (by decide) ?_
    refine lv_isub C.1 C.2.1 dX12_out_7 ?_
    refine m_csi C w hl csX12_373 (As := [.int (nI (q1)), .int 0, .int ((nI (rs)) - (1 : Int32))]) (rest := []) (c_X12_in l D b0 r M (nI (q1)) (0 : Int32) ((nI (rs)) - (1 : Int32)) ) rfl rfl (Nat.le_of_ble_eq_true rfl) ⟨Nat.le_of_ble_eq_true rfl, Nat.le_of_ble_eq_true rfl⟩ ⟨Nat.zero_le _, Nat.zero_le _⟩ dX12_out_8 (fun v_1 M9 H locs e9 w => ?_)
    obtain ⟨ev_1, e9⟩ := e9
    rw [e9] at w
    subst ev_1
    refine lv_if_eq (tgt := 27) C.1 C.2.1 dX12_out_11 (by decide) (fun h_2 => absurd h_2 hTq1) (fun _ => ?_)
    refine lv_aload_n C.1 C.2.1 dX12_out_14 rfl (lv_at hl 0 rfl) ?_
    refine m_get C w (k := 117) (j := 3) (v := .ref (r (121))) flX12_19 (by decide) rfl rfl dX12_out_15 ?_
    refine lv_iload_n C.1 C.2.1 dX12_out_18 rfl (lv_at hl 1 rfl) ?_
    refine m_bald C w (k := 121) (i := q1) (n := 1000) (wr := true) (by decide) rfl (by omega) (by decide) dX12_out_19 ?_
    refine lv_sipush (v := 255) C.1 C.2.1 dX12_out_20 (by decide) ?_
    refine lv_iand C.1 C.2.1 dX12_out_23 ?_
    refine lv_goto (tgt := 28) C.1 C.2.1 dX12_out_24 (by decide) ?_
    exact m_iret C w ⟨by subst eq1; exact Eq.symm (((if_pos hS).trans rfl)), rfl⟩ dX12_out_28
  · refine lv_iload_n C.1 C.2.1 dX12_out_0 rfl (lv_at hl 1 rfl) ?_
    refine lv_iconst (v := 0) C.1 C.2.1 dX12_out_1 (by decide) ?_
    refine lv_aload_n C.1 C.2.1 dX12_out_2 rfl (lv_at hl 0 rfl) ?_
    refine m_get C w (k := 117) (j := 5) (v := .int (M.1 117 5)) flX12_370 (by decide) rfl rfl dX12_out_3 ?_
    refine m_i (y := nI (rs)) h3 ?_
    refine lv_iconst (v := 1) C.1 C.2.1 dX12_out_6 (by decide) ?_
    refine lv_isub C.1 C.2.1 dX12_out_7 ?_
    refine m_csi C w hl csX12_373 (As := [.int (v1), .int 0, .int ((nI (rs)) - (1 : Int32))]) (rest := []) (c_X12_in l D b0 r M (v1) (0 : Int32) ((nI (rs)) - (1 : Int32)) ) rfl rfl (Nat.le_of_ble_eq_true rfl) ⟨Nat.le_of_ble_eq_true rfl, Nat.le_of_ble_eq_true rfl⟩ ⟨Nat.zero_le _, Nat.zero_le _⟩ dX12_out_8 (fun v_3 M9 H locs e9 w => ?_)
    obtain ⟨ev_3, e9⟩ := e9
    rw [e9] at w
    subst ev_3
    refine lv_if_eq (tgt := 27) C.1 C.2.1 dX12_out_11 (by decide) (fun _ => ?_) (fun h_4 => absurd h_4 (fun q => hS q))
    refine lv_iconst (v := (-1)) C.1 C.2.1 dX12_out_27 (by decide) ?_
    exact m_iret C w ⟨by exact Eq.symm (((if_neg hS).trans rfl)), rfl⟩ dX12_out_28

def f_X12_count (v1 : Int32) (M : mm_M) : Int32 :=
  if ¬ (v1) = (0 : Int32) then (if ¬ (v1) = (1 : Int32) then ((-1 : Int32)) else ((M.1 117 5))) else ((M.1 117 4))
set_option maxHeartbeats 4000000 in
set_option maxRecDepth 100000 in
theorem c_X12_count (l : Launch) (D : va_G) (b0 : Nat) (r : Nat → Nat) (M : mm_M) (v1 : Int32)  : mm_Mi l yX12_count cX12_count 2 .int 0 0 D b0 r [.ref (r (117)), .int (v1)] M (fun v M' => v = f_X12_count v1 M ∧ M' = M) := by
  refine mm_enter (cc := cX12_count) (nL := 2) (ret := (some .int)) (by decide) (Nat.le_of_ble_eq_true rfl) ?_
  intro p e s m args below meth c C w ls hl
  have hl : lv_has ls 2 [(0, .ref (r (117))), (1, .int (v1))] := hl
  refine lv_iload_n C.1 C.2.1 dX12_count_0 rfl (lv_at hl 1 rfl) ?_
  refine lv_if_ne (tgt := 11) C.1 C.2.1 dX12_count_1 (by decide) (fun h_1 => ?_) (fun h_1 => ?_)
  · refine lv_iload_n C.1 C.2.1 dX12_count_11 rfl (lv_at hl 1 rfl) ?_
    refine lv_iconst (v := 1) C.1 C.2.1 dX12_count_12 (by decide) ?_
    refine lv_icmp_ne (tgt := 23) C.1 C.2.1 dX12_count_13 (by decide) (fun h_2 => ?_) (fun h_2 => ?_)
    · refine lv_iconst (v := (-1)) C.1 C.2.1 dX12_count_23 (by decide) ?_
      exact m_iret C w ⟨by exact Eq.symm (((if_pos h_1).trans ((if_pos h_2).trans rfl))), rfl⟩ dX12_count_24
    · refine lv_aload_n C.1 C.2.1 dX12_count_16 rfl (lv_at hl 0 rfl) ?_
      refine m_get C w (k := 117) (j := 5) (v := .int (M.1 117 5)) flX12_370 (by decide) rfl rfl dX12_count_17 ?_
      refine lv_goto (tgt := 24) C.1 C.2.1 dX12_count_20 (by decide) ?_
      exact m_iret C w ⟨by exact Eq.symm (((if_pos h_1).trans ((if_neg (fun q => q h_2)).trans rfl))), rfl⟩ dX12_count_24
  · refine lv_aload_n C.1 C.2.1 dX12_count_4 rfl (lv_at hl 0 rfl) ?_
    refine m_get C w (k := 117) (j := 4) (v := .int (M.1 117 4)) flX12_364 (by decide) rfl rfl dX12_count_5 ?_
    refine lv_goto (tgt := 24) C.1 C.2.1 dX12_count_8 (by decide) ?_
    exact m_iret C w ⟨by exact Eq.symm (((if_neg (fun q => q h_1)).trans rfl)), rfl⟩ dX12_count_24

def f_X12_isSession (v1 : Int32) (M : mm_M) : Int32 :=
  if ¬ f_X12_in v1 0 3 = 0 then (let q1 := (v1).toNatClampNeg
  if (M.1 159 q1) = (0 : Int32) then ((0 : Int32)) else ((1 : Int32))) else ((0 : Int32))
set_option maxHeartbeats 4000000 in
set_option maxRecDepth 100000 in
theorem c_X12_isSession (l : Launch) (D : va_G) (b0 : Nat) (r : Nat → Nat) (M : mm_M) (v1 : Int32)  : mm_Mi l yX12_isSession cX12_isSession 2 .boolean 1 22 D b0 r [.ref (r (117)), .int (v1)] M (fun v M' => v = f_X12_isSession v1 M ∧ M' = M) := by
  refine mm_enter (cc := cX12_isSession) (nL := 2) (ret := (some .boolean)) (by decide) (Nat.le_of_ble_eq_true rfl) ?_
  intro p e s m args below meth c C w ls hl
  have hl : lv_has ls 2 [(0, .ref (r (117))), (1, .int (v1))] := hl
  by_cases hS : ¬ f_X12_in v1 0 3 = 0
  · obtain ⟨q1, eq1⟩ : ∃ zz, zz = (v1).toNatClampNeg := ⟨_, rfl⟩
    obtain ⟨hvq1, hbq1⟩ : v1 = nI q1 ∧ q1 ≤ 3 := by rw [eq1]; exact g_inN (n := 3) (by decide) hS
    rw [hvq1] at hl
    have hTq1 : ¬ f_X12_in (nI q1) 0 3 = 0 := by rw [← hvq1]; exact hS
    refine lv_iload_n C.1 C.2.1 dX12_isSession_0 rfl (lv_at hl 1 rfl) ?_
    refine lv_iconst (v := 0) C.1 C.2.1 dX12_isSession_1 (by decide) ?_
    refine lv_iconst (v := 3) C.1 C.2.1 dX12_isSession_2 (by decide) ?_
    refine m_csi C w hl csX12_373 (As := [.int (nI (q1)), .int 0, .int 3]) (rest := []) (c_X12_in l D b0 r M (nI (q1)) (0 : Int32) (3 : Int32) ) rfl rfl (Nat.le_of_ble_eq_true rfl) ⟨Nat.le_of_ble_eq_true rfl, Nat.le_of_ble_eq_true rfl⟩ ⟨Nat.zero_le _, Nat.zero_le _⟩ dX12_isSession_3 (fun v_1 M9 H locs e9 w => ?_)
    obtain ⟨ev_1, e9⟩ := e9
    rw [e9] at w
    subst ev_1
    refine lv_if_eq (tgt := 22) C.1 C.2.1 dX12_isSession_6 (by decide) (fun h_2 => absurd h_2 hTq1) (fun _ => ?_)
    refine lv_aload_n C.1 C.2.1 dX12_isSession_9 rfl (lv_at hl 0 rfl) ?_
    refine m_get C w (k := 117) (j := 44) (v := .ref (r (159))) flX12_207 (by decide) rfl rfl dX12_isSession_10 ?_
    refine lv_iload_n C.1 C.2.1 dX12_isSession_13 rfl (lv_at hl 1 rfl) ?_
    refine m_zald C w (k := 159) (i := q1) (n := 4) (wr := true) (by decide) rfl (by omega) (by decide) dX12_isSession_14 ?_
    refine lv_if_eq (tgt := 22) C.1 C.2.1 dX12_isSession_15 (by decide) (fun h_3 => ?_) (fun h_3 => ?_)
    · refine lv_iconst (v := 0) C.1 C.2.1 dX12_isSession_22 (by decide) ?_
      exact m_zret C w (by decide) ⟨by subst eq1; exact Eq.symm (((if_pos hS).trans ((if_pos h_3).trans rfl))), rfl⟩ dX12_isSession_23
    · refine lv_iconst (v := 1) C.1 C.2.1 dX12_isSession_18 (by decide) ?_
      refine lv_goto (tgt := 23) C.1 C.2.1 dX12_isSession_19 (by decide) ?_
      exact m_zret C w (by decide) ⟨by subst eq1; exact Eq.symm (((if_pos hS).trans ((if_neg h_3).trans rfl))), rfl⟩ dX12_isSession_23
  · refine lv_iload_n C.1 C.2.1 dX12_isSession_0 rfl (lv_at hl 1 rfl) ?_
    refine lv_iconst (v := 0) C.1 C.2.1 dX12_isSession_1 (by decide) ?_
    refine lv_iconst (v := 3) C.1 C.2.1 dX12_isSession_2 (by decide) ?_
    refine m_csi C w hl csX12_373 (As := [.int (v1), .int 0, .int 3]) (rest := []) (c_X12_in l D b0 r M (v1) (0 : Int32) (3 : Int32) ) rfl rfl (Nat.le_of_ble_eq_true rfl) ⟨Nat.le_of_ble_eq_true rfl, Nat.le_of_ble_eq_true rfl⟩ ⟨Nat.zero_le _, Nat.zero_le _⟩ dX12_isSession_3 (fun v_4 M9 H locs e9 w => ?_)
    obtain ⟨ev_4, e9⟩ := e9
    rw [e9] at w
    subst ev_4
    refine lv_if_eq (tgt := 22) C.1 C.2.1 dX12_isSession_6 (by decide) (fun _ => ?_) (fun h_5 => absurd h_5 (fun q => hS q))
    refine lv_iconst (v := 0) C.1 C.2.1 dX12_isSession_22 (by decide) ?_
    exact m_zret C w (by decide) ⟨by exact Eq.symm (((if_neg hS).trans rfl)), rfl⟩ dX12_isSession_23

theorem g_isSession2 {v : Int32} {M : mm_M} (h : ¬ f_X12_isSession v M = 0) : v = nI v.toNatClampNeg ∧ v.toNatClampNeg < 4 := by
  unfold f_X12_isSession at h
  by_cases h0 : ¬ f_X12_in v 0 3 = 0
  · obtain ⟨a, b⟩ := g_inN (n := 3) (by decide) h0
    exact ⟨a, by omega⟩
  · rw [if_neg h0] at h
    exact absurd rfl h

def f_X12_mixHash (p1 : Nat) (k1 : Nat) (p2 : Nat) (p3 : Nat) (M : mm_M) : mm_M :=
  let M_1 := f_X12_start M
  let M_2 := f_X12_putRow 157 (352 * p1) 32 0 M_1
  let M_3 := f_X12_putRow k1 p2 p3 (0 + 32) M_2
  let M_4 := f_X12_sums (0 + 32 + p3) M_3
  let M_5 := f_X12_copy 129 0 157 (352 * p1) 32 M_4
  M_5
theorem w_f_X12_mixHash (p1 : Nat) (k1 : Nat) (p2 : Nat) (p3 : Nat) (M : mm_M) : mm_fr [117, 128, 129, 126, 127, 125, 157] M (f_X12_mixHash p1 k1 p2 p3 M) := by
  unfold f_X12_mixHash
  exact ((w_f_X12_copy _ _ _ _ _ _).on (by simp) ((w_f_X12_sums _ _).on (by simp) ((w_f_X12_putRow _ _ _ _ _).on (by simp) ((w_f_X12_putRow _ _ _ _ _).on (by simp) ((w_f_X12_start _).on (by simp) (mm_fr_refl _ _))))))
set_option maxHeartbeats 4000000 in
set_option maxRecDepth 100000 in
theorem c_X12_mixHash (l : Launch) (D : va_G) (b0 : Nat) (r : Nat → Nat) (M : mm_M) (p1 : Nat) (k1 : Nat) (p2 : Nat) (p3 : Nat) (hs : p1 < 4) {n1 : Nat} {w1 : Bool} (hk1 : k1 < 181) (hs1 : mm_sh k1 = .inl (.byte, n1, w1)) (hn1 : n1 < 2 ^ 31) (hp1 : p2 + p3 ≤ n1) (hq1 : n1 < 2 ^ 30) (hp3 : p3 ≤ 1100) : mm_Mv l yX12_mixHash cX12_mixHash 5 3 68 D b0 r [.ref (r (117)), .int (nI (p1)), .ref (r (k1)), .int (nI (p2)), .int (nI (p3))] M (fun M' => M' = f_X12_mixHash p1 k1 p2 p3 M) := by
  refine mm_enter (cc := cX12_mixHash) (nL := 5) (ret := none) (by decide) (Nat.le_of_ble_eq_true rfl) ?_
  intro p e s m args below meth c C w ls hl
  have hl : lv_has ls 5 [(0, .ref (r (117))), (1, .int (nI (p1))), (2, .ref (r (k1))), (3, .int (nI (p2))), (4, .int (nI (p3)))] := hl
  refine lv_aload_n C.1 C.2.1 dX12_mixHash_0 rfl (lv_at hl 0 rfl) ?_
  refine m_cvv C w hl cvX12_269 (k := 117) (by decide) rfl (q := (RX12, TX12, 58)) rfl rfl (As := []) (rest := []) (c_X12_start l D b0 r M  ) rfl rfl (Nat.le_of_ble_eq_true rfl) ⟨Nat.le_of_ble_eq_true rfl, Nat.le_of_ble_eq_true rfl⟩ ⟨Nat.zero_le _, Nat.zero_le _⟩ dX12_mixHash_1 (fun M_1 H locs eM_1 w => ?_)
  refine lv_aload_n C.1 C.2.1 dX12_mixHash_4 rfl (lv_at hl 0 rfl) ?_
  refine lv_aload_n C.1 C.2.1 dX12_mixHash_5 rfl (lv_at hl 0 rfl) ?_
  refine m_get C w (k := 117) (j := 42) (v := .ref (r (157))) flX12_201 (by decide) rfl rfl dX12_mixHash_6 ?_
  refine lv_sipush (v := 352) C.1 C.2.1 dX12_mixHash_9 (by decide) ?_
  refine lv_iload_n C.1 C.2.1 dX12_mixHash_12 rfl (lv_at hl 1 rfl) ?_
  refine lv_imul C.1 C.2.1 dX12_mixHash_13 ?_
  refine m_i (y := nI (352 * p1)) (pk_mul 352 p1) ?_
  refine lv_iconst (v := 0) C.1 C.2.1 dX12_mixHash_14 (by decide) ?_
  refine lv_iadd C.1 C.2.1 dX12_mixHash_15 ?_
  refine m_i (y := nI (352 * p1)) (nI_add (352 * p1) 0) ?_
  refine lv_bipush (v := 32) C.1 C.2.1 dX12_mixHash_16 (by decide) ?_
  refine m_cvv C w hl cvX12_272 (k := 117) (by decide) rfl (q := (RX12, TX12, 58)) rfl rfl (As := [.ref (r (157)), .int (nI (352 * p1)), .int 32]) (rest := []) (c_X12_putRow l D b0 r M_1 157 (352 * p1) 32 0 (by decide) rfl (by decide) (by omega) (by omega) (by omega) (by rw [eM_1]; exact r_X12_start _)) rfl rfl (Nat.le_of_ble_eq_true rfl) ⟨Nat.le_of_ble_eq_true rfl, Nat.le_of_ble_eq_true rfl⟩ ⟨Nat.zero_le _, Nat.zero_le _⟩ dX12_mixHash_18 (fun M_2 H locs eM_2 w => ?_)
  refine lv_aload_n C.1 C.2.1 dX12_mixHash_21 rfl (lv_at hl 0 rfl) ?_
  refine lv_aload_n C.1 C.2.1 dX12_mixHash_22 rfl (lv_at hl 2 rfl) ?_
  refine lv_iload_n C.1 C.2.1 dX12_mixHash_23 rfl (lv_at hl 3 rfl) ?_
  refine lv_iload C.1 C.2.1 dX12_mixHash_24 (lv_at hl 4 rfl) ?_
  refine m_cvv C w hl cvX12_272 (k := 117) (by decide) rfl (q := (RX12, TX12, 58)) rfl rfl (As := [.ref (r (k1)), .int (nI (p2)), .int (nI (p3))]) (rest := []) (c_X12_putRow l D b0 r M_2 k1 p2 p3 (0 + 32) hk1 hs1 hn1 (by omega) (by omega) (by omega) (by rw [eM_2]; exact r_X12_putRow _ _ _ _ _ (by rw [eM_1]; exact r_X12_start _))) rfl rfl (Nat.le_of_ble_eq_true rfl) ⟨Nat.le_of_ble_eq_true rfl, Nat.le_of_ble_eq_true rfl⟩ ⟨Nat.zero_le _, Nat.zero_le _⟩ dX12_mixHash_26 (fun M_3 H locs eM_3 w => ?_)
  refine lv_aload_n C.1 C.2.1 dX12_mixHash_29 rfl (lv_at hl 0 rfl) ?_
  refine m_cvv C w hl cvX12_276 (k := 117) (by decide) rfl (q := (RX12, TX12, 58)) rfl rfl (As := []) (rest := []) (c_X12_sums l D b0 r M_3 (0 + 32 + p3) (by omega) (by rw [eM_3]; exact r_X12_putRow _ _ _ _ _ (by rw [eM_2]; exact r_X12_putRow _ _ _ _ _ (by rw [eM_1]; exact r_X12_start _)))) rfl rfl (Nat.le_of_ble_eq_true rfl) ⟨Nat.le_of_ble_eq_true rfl, Nat.le_of_ble_eq_true rfl⟩ ⟨Nat.zero_le _, Nat.zero_le _⟩ dX12_mixHash_30 (fun M_4 H locs eM_4 w => ?_)
  refine lv_aload_n C.1 C.2.1 dX12_mixHash_33 rfl (lv_at hl 0 rfl) ?_
  refine m_get C w (k := 117) (j := 13) (v := .ref (r (129))) flX12_116 (by decide) rfl rfl dX12_mixHash_34 ?_
  refine lv_iconst (v := 0) C.1 C.2.1 dX12_mixHash_37 (by decide) ?_
  refine lv_aload_n C.1 C.2.1 dX12_mixHash_38 rfl (lv_at hl 0 rfl) ?_
  refine m_get C w (k := 117) (j := 42) (v := .ref (r (157))) flX12_201 (by decide) rfl rfl dX12_mixHash_39 ?_
  refine lv_sipush (v := 352) C.1 C.2.1 dX12_mixHash_42 (by decide) ?_
  refine lv_iload_n C.1 C.2.1 dX12_mixHash_45 rfl (lv_at hl 1 rfl) ?_
  refine lv_imul C.1 C.2.1 dX12_mixHash_46 ?_
  refine m_i (y := nI (352 * p1)) (pk_mul 352 p1) ?_
  refine lv_iconst (v := 0) C.1 C.2.1 dX12_mixHash_47 (by decide) ?_
  refine lv_iadd C.1 C.2.1 dX12_mixHash_48 ?_
  refine m_i (y := nI (352 * p1)) (nI_add (352 * p1) 0) ?_
  refine lv_bipush (v := 32) C.1 C.2.1 dX12_mixHash_49 (by decide) ?_
  refine m_csv C w hl csX12_265 (As := [.ref (r (129)), .int 0, .ref (r (157)), .int (nI (352 * p1)), .int 32]) (rest := []) (c_X12_copy l D b0 r M_4 129 0 157 (352 * p1) 32 (by decide) rfl (by decide) (by omega) (by decide) rfl (by decide) (by omega) (by omega) (by omega)) rfl rfl (Nat.le_of_ble_eq_true rfl) ⟨Nat.le_of_ble_eq_true rfl, Nat.le_of_ble_eq_true rfl⟩ ⟨Nat.zero_le _, Nat.zero_le _⟩ dX12_mixHash_51 (fun M_5 H locs eM_5 w => ?_)
  exact m_vret C w (by subst eM_1 eM_2 eM_3 eM_4 eM_5; exact Eq.symm (rfl)) dX12_mixHash_54

def f_X12_derived (p1 : Nat) (k1 : Nat) (p2 : Nat) (M : mm_M) : mm_M :=
  let M_1 := f_X12_macs 157 (352 * p1 + 32) k1 0 p2 M
  let M_2 := f_X12_copy 129 0 169 0 32 M_1
  let M_3 := mm_w M_2 172 0 (1 : Int32)
  let M_4 := f_X12_macs 169 0 172 0 1 M_3
  let M_5 := f_X12_copy 129 0 170 0 32 M_4
  let M_6 := mm_w M_5 170 32 (2 : Int32)
  let M_7 := f_X12_macs 169 0 170 0 33 M_6
  let M_8 := f_X12_copy 129 0 171 0 32 M_7
  M_8
theorem w_f_X12_derived (p1 : Nat) (k1 : Nat) (p2 : Nat) (M : mm_M) : mm_fr [130, 117, 128, 129, 126, 127, 125, 131, 169, 172, 170, 171] M (f_X12_derived p1 k1 p2 M) := by
  unfold f_X12_derived
  exact ((w_f_X12_copy _ _ _ _ _ _).on (by simp) ((w_f_X12_macs _ _ _ _ _ _).on (by simp) (mm_fr_w (by simp) ((w_f_X12_copy _ _ _ _ _ _).on (by simp) ((w_f_X12_macs _ _ _ _ _ _).on (by simp) (mm_fr_w (by simp) ((w_f_X12_copy _ _ _ _ _ _).on (by simp) ((w_f_X12_macs _ _ _ _ _ _).on (by simp) (mm_fr_refl _ _)))))))))
set_option maxHeartbeats 4000000 in
set_option maxRecDepth 100000 in
theorem c_X12_derived (l : Launch) (D : va_G) (b0 : Nat) (r : Nat → Nat) (M : mm_M) (p1 : Nat) (k1 : Nat) (p2 : Nat) (hs : p1 < 4) {n1 : Nat} {w1 : Bool} (hk1 : k1 < 181) (hs1 : mm_sh k1 = .inl (.byte, n1, w1)) (hn1 : n1 < 2 ^ 31) (hp1 : p2 ≤ n1) (hq1 : n1 < 2 ^ 30) (hp2 : p2 ≤ 1000) : mm_Mv l yX12_derived cX12_derived 4 4 94 D b0 r [.ref (r (117)), .int (nI (p1)), .ref (r (k1)), .int (nI (p2))] M (fun M' => M' = f_X12_derived p1 k1 p2 M) := by
  refine mm_enter (cc := cX12_derived) (nL := 4) (ret := none) (by decide) (Nat.le_of_ble_eq_true rfl) ?_
  intro p e s m args below meth c C w ls hl
  have hl : lv_has ls 4 [(0, .ref (r (117))), (1, .int (nI (p1))), (2, .ref (r (k1))), (3, .int (nI (p2)))] := hl
  refine lv_aload_n C.1 C.2.1 dX12_derived_0 rfl (lv_at hl 0 rfl) ?_
  refine lv_aload_n C.1 C.2.1 dX12_derived_1 rfl (lv_at hl 0 rfl) ?_
  refine m_get C w (k := 117) (j := 42) (v := .ref (r (157))) flX12_201 (by decide) rfl rfl dX12_derived_2 ?_
  refine lv_sipush (v := 352) C.1 C.2.1 dX12_derived_5 (by decide) ?_
  refine lv_iload_n C.1 C.2.1 dX12_derived_8 rfl (lv_at hl 1 rfl) ?_
  refine lv_imul C.1 C.2.1 dX12_derived_9 ?_
  refine m_i (y := nI (352 * p1)) (pk_mul 352 p1) ?_
  refine lv_bipush (v := 32) C.1 C.2.1 dX12_derived_10 (by decide) ?_
  refine lv_iadd C.1 C.2.1 dX12_derived_12 ?_
  refine m_i (y := nI (352 * p1 + 32)) (nI_add (352 * p1) 32) ?_
  refine lv_aload_n C.1 C.2.1 dX12_derived_13 rfl (lv_at hl 2 rfl) ?_
  refine lv_iconst (v := 0) C.1 C.2.1 dX12_derived_14 (by decide) ?_
  refine lv_iload_n C.1 C.2.1 dX12_derived_15 rfl (lv_at hl 3 rfl) ?_
  refine m_cvv C w hl cvX12_391 (k := 117) (by decide) rfl (q := (RX12, TX12, 58)) rfl rfl (As := [.ref (r (157)), .int (nI (352 * p1 + 32)), .ref (r (k1)), .int 0, .int (nI (p2))]) (rest := []) (c_X12_macs l D b0 r M 157 (352 * p1 + 32) k1 0 p2 (by decide) rfl (by decide) (by omega) (by omega) hk1 hs1 hn1 (by omega) (by omega) (by omega)) rfl rfl (Nat.le_of_ble_eq_true rfl) ⟨Nat.le_of_ble_eq_true rfl, Nat.le_of_ble_eq_true rfl⟩ ⟨Nat.zero_le _, Nat.zero_le _⟩ dX12_derived_16 (fun M_1 H locs eM_1 w => ?_)
  refine lv_aload_n C.1 C.2.1 dX12_derived_19 rfl (lv_at hl 0 rfl) ?_
  refine m_get C w (k := 117) (j := 13) (v := .ref (r (129))) flX12_116 (by decide) rfl rfl dX12_derived_20 ?_
  refine lv_iconst (v := 0) C.1 C.2.1 dX12_derived_23 (by decide) ?_
  refine lv_aload_n C.1 C.2.1 dX12_derived_24 rfl (lv_at hl 0 rfl) ?_
  refine m_get C w (k := 117) (j := 54) (v := .ref (r (169))) flX12_238 (by decide) rfl rfl dX12_derived_25 ?_
  refine lv_iconst (v := 0) C.1 C.2.1 dX12_derived_28 (by decide) ?_
  refine lv_bipush (v := 32) C.1 C.2.1 dX12_derived_29 (by decide) ?_
  refine m_csv C w hl csX12_265 (As := [.ref (r (129)), .int 0, .ref (r (169)), .int 0, .int 32]) (rest := []) (c_X12_copy l D b0 r M_1 129 0 169 0 32 (by decide) rfl (by decide) (by omega) (by decide) rfl (by decide) (by omega) (by omega) (by omega)) rfl rfl (Nat.le_of_ble_eq_true rfl) ⟨Nat.le_of_ble_eq_true rfl, Nat.le_of_ble_eq_true rfl⟩ ⟨Nat.zero_le _, Nat.zero_le _⟩ dX12_derived_31 (fun M_2 H locs eM_2 w => ?_)
  refine lv_aload_n C.1 C.2.1 dX12_derived_34 rfl (lv_at hl 0 rfl) ?_
  refine m_get C w (k := 117) (j := 57) (v := .ref (r (172))) flX12_247 (by decide) rfl rfl dX12_derived_35 ?_
  refine lv_iconst (v := 0) C.1 C.2.1 dX12_derived_38 (by decide) ?_
  refine lv_iconst (v := 1) C.1 C.2.1 dX12_derived_39 (by decide) ?_
  refine m_bast C w (k := 172) (i := 0) (n := 1) (x := (1 : Int32)) (by decide) rfl (by omega) (by decide) (by decide) dX12_derived_40 (fun H locs w => ?_)
  obtain ⟨M_3, eM_3⟩ : ∃ zz, zz = mm_w M_2 172 0 (1 : Int32) := ⟨_, rfl⟩
  rw [← eM_3] at w
  refine lv_aload_n C.1 C.2.1 dX12_derived_41 rfl (lv_at hl 0 rfl) ?_
  refine lv_aload_n C.1 C.2.1 dX12_derived_42 rfl (lv_at hl 0 rfl) ?_
  refine m_get C w (k := 117) (j := 54) (v := .ref (r (169))) flX12_238 (by decide) rfl rfl dX12_derived_43 ?_
  refine lv_iconst (v := 0) C.1 C.2.1 dX12_derived_46 (by decide) ?_
  refine lv_aload_n C.1 C.2.1 dX12_derived_47 rfl (lv_at hl 0 rfl) ?_
  refine m_get C w (k := 117) (j := 57) (v := .ref (r (172))) flX12_247 (by decide) rfl rfl dX12_derived_48 ?_
  refine lv_iconst (v := 0) C.1 C.2.1 dX12_derived_51 (by decide) ?_
  refine lv_iconst (v := 1) C.1 C.2.1 dX12_derived_52 (by decide) ?_
  refine m_cvv C w hl cvX12_391 (k := 117) (by decide) rfl (q := (RX12, TX12, 58)) rfl rfl (As := [.ref (r (169)), .int 0, .ref (r (172)), .int 0, .int 1]) (rest := []) (c_X12_macs l D b0 r M_3 169 0 172 0 1 (by decide) rfl (by decide) (by omega) (by omega) (by decide) rfl (by decide) (by omega) (by omega) (by omega)) rfl rfl (Nat.le_of_ble_eq_true rfl) ⟨Nat.le_of_ble_eq_true rfl, Nat.le_of_ble_eq_true rfl⟩ ⟨Nat.zero_le _, Nat.zero_le _⟩ dX12_derived_53 (fun M_4 H locs eM_4 w => ?_)
  refine lv_aload_n C.1 C.2.1 dX12_derived_56 rfl (lv_at hl 0 rfl) ?_
  refine m_get C w (k := 117) (j := 13) (v := .ref (r (129))) flX12_116 (by decide) rfl rfl dX12_derived_57 ?_
  refine lv_iconst (v := 0) C.1 C.2.1 dX12_derived_60 (by decide) ?_
  refine lv_aload_n C.1 C.2.1 dX12_derived_61 rfl (lv_at hl 0 rfl) ?_
  refine m_get C w (k := 117) (j := 55) (v := .ref (r (170))) flX12_241 (by decide) rfl rfl dX12_derived_62 ?_
  refine lv_iconst (v := 0) C.1 C.2.1 dX12_derived_65 (by decide) ?_
  refine lv_bipush (v := 32) C.1 C.2.1 dX12_derived_66 (by decide) ?_
  refine m_csv C w hl csX12_265 (As := [.ref (r (129)), .int 0, .ref (r (170)), .int 0, .int 32]) (rest := []) (c_X12_copy l D b0 r M_4 129 0 170 0 32 (by decide) rfl (by decide) (by omega) (by decide) rfl (by decide) (by omega) (by omega) (by omega)) rfl rfl (Nat.le_of_ble_eq_true rfl) ⟨Nat.le_of_ble_eq_true rfl, Nat.le_of_ble_eq_true rfl⟩ ⟨Nat.zero_le _, Nat.zero_le _⟩ dX12_derived_68 (fun M_5 H locs eM_5 w => ?_)
  refine lv_aload_n C.1 C.2.1 dX12_derived_71 rfl (lv_at hl 0 rfl) ?_
  refine m_get C w (k := 117) (j := 55) (v := .ref (r (170))) flX12_241 (by decide) rfl rfl dX12_derived_72 ?_
  refine lv_bipush (v := 32) C.1 C.2.1 dX12_derived_75 (by decide) ?_
  refine lv_iconst (v := 2) C.1 C.2.1 dX12_derived_77 (by decide) ?_
  refine m_bast C w (k := 170) (i := 32) (n := 33) (x := (2 : Int32)) (by decide) rfl (by omega) (by decide) (by decide) dX12_derived_78 (fun H locs w => ?_)
  obtain ⟨M_6, eM_6⟩ : ∃ zz, zz = mm_w M_5 170 32 (2 : Int32) := ⟨_, rfl⟩
  rw [← eM_6] at w
  refine lv_aload_n C.1 C.2.1 dX12_derived_79 rfl (lv_at hl 0 rfl) ?_
  refine lv_aload_n C.1 C.2.1 dX12_derived_80 rfl (lv_at hl 0 rfl) ?_
  refine m_get C w (k := 117) (j := 54) (v := .ref (r (169))) flX12_238 (by decide) rfl rfl dX12_derived_81 ?_
  refine lv_iconst (v := 0) C.1 C.2.1 dX12_derived_84 (by decide) ?_
  refine lv_aload_n C.1 C.2.1 dX12_derived_85 rfl (lv_at hl 0 rfl) ?_
  refine m_get C w (k := 117) (j := 55) (v := .ref (r (170))) flX12_241 (by decide) rfl rfl dX12_derived_86 ?_
  refine lv_iconst (v := 0) C.1 C.2.1 dX12_derived_89 (by decide) ?_
  refine lv_bipush (v := 33) C.1 C.2.1 dX12_derived_90 (by decide) ?_
  refine m_cvv C w hl cvX12_391 (k := 117) (by decide) rfl (q := (RX12, TX12, 58)) rfl rfl (As := [.ref (r (169)), .int 0, .ref (r (170)), .int 0, .int 33]) (rest := []) (c_X12_macs l D b0 r M_6 169 0 170 0 33 (by decide) rfl (by decide) (by omega) (by omega) (by decide) rfl (by decide) (by omega) (by omega) (by omega)) rfl rfl (Nat.le_of_ble_eq_true rfl) ⟨Nat.le_of_ble_eq_true rfl, Nat.le_of_ble_eq_true rfl⟩ ⟨Nat.zero_le _, Nat.zero_le _⟩ dX12_derived_92 (fun M_7 H locs eM_7 w => ?_)
  refine lv_aload_n C.1 C.2.1 dX12_derived_95 rfl (lv_at hl 0 rfl) ?_
  refine m_get C w (k := 117) (j := 13) (v := .ref (r (129))) flX12_116 (by decide) rfl rfl dX12_derived_96 ?_
  refine lv_iconst (v := 0) C.1 C.2.1 dX12_derived_99 (by decide) ?_
  refine lv_aload_n C.1 C.2.1 dX12_derived_100 rfl (lv_at hl 0 rfl) ?_
  refine m_get C w (k := 117) (j := 56) (v := .ref (r (171))) flX12_244 (by decide) rfl rfl dX12_derived_101 ?_
  refine lv_iconst (v := 0) C.1 C.2.1 dX12_derived_104 (by decide) ?_
  refine lv_bipush (v := 32) C.1 C.2.1 dX12_derived_105 (by decide) ?_
  refine m_csv C w hl csX12_265 (As := [.ref (r (129)), .int 0, .ref (r (171)), .int 0, .int 32]) (rest := []) (c_X12_copy l D b0 r M_7 129 0 171 0 32 (by decide) rfl (by decide) (by omega) (by decide) rfl (by decide) (by omega) (by omega) (by omega)) rfl rfl (Nat.le_of_ble_eq_true rfl) ⟨Nat.le_of_ble_eq_true rfl, Nat.le_of_ble_eq_true rfl⟩ ⟨Nat.zero_le _, Nat.zero_le _⟩ dX12_derived_107 (fun M_8 H locs eM_8 w => ?_)
  exact m_vret C w (by subst eM_1 eM_2 eM_3 eM_4 eM_5 eM_6 eM_7 eM_8; exact Eq.symm (rfl)) dX12_derived_110

def f_X12_mixKey (p1 : Nat) (M : mm_M) : mm_M :=
  let M_1 := f_X12_derived p1 145 32 M
  let M_2 := f_X12_copy 170 0 157 (352 * p1 + 32) 32 M_1
  let M_3 := f_X12_copy 171 0 157 (352 * p1 + 64) 32 M_2
  let M_4 := mm_w M_3 161 p1 (1 : Int32)
  let M_5 := mm_wl M_4 166 p1 (0)
  M_5
theorem w_f_X12_mixKey (p1 : Nat) (M : mm_M) : mm_fr [130, 117, 128, 129, 126, 127, 125, 131, 169, 172, 170, 171, 157, 161, 166] M (f_X12_mixKey p1 M) := by
  unfold f_X12_mixKey
  exact (mm_fr_wl (by simp) (mm_fr_w (by simp) ((w_f_X12_copy _ _ _ _ _ _).on (by simp) ((w_f_X12_copy _ _ _ _ _ _).on (by simp) ((w_f_X12_derived _ _ _ _).on (by simp) (mm_fr_refl _ _))))))
set_option maxHeartbeats 4000000 in
set_option maxRecDepth 100000 in
theorem c_X12_mixKey (l : Launch) (D : va_G) (b0 : Nat) (r : Nat → Nat) (M : mm_M) (p1 : Nat) (hs : p1 < 4) : mm_Mv l yX12_mixKey cX12_mixKey 2 5 117 D b0 r [.ref (r (117)), .int (nI (p1))] M (fun M' => M' = f_X12_mixKey p1 M) := by
  refine mm_enter (cc := cX12_mixKey) (nL := 2) (ret := none) (by decide) (Nat.le_of_ble_eq_true rfl) ?_
  intro p e s m args below meth c C w ls hl
  have hl : lv_has ls 2 [(0, .ref (r (117))), (1, .int (nI (p1)))] := hl
  refine lv_aload_n C.1 C.2.1 dX12_mixKey_0 rfl (lv_at hl 0 rfl) ?_
  refine lv_iload_n C.1 C.2.1 dX12_mixKey_1 rfl (lv_at hl 1 rfl) ?_
  refine lv_aload_n C.1 C.2.1 dX12_mixKey_2 rfl (lv_at hl 0 rfl) ?_
  refine m_get C w (k := 117) (j := 30) (v := .ref (r (145))) flX12_165 (by decide) rfl rfl dX12_mixKey_3 ?_
  refine lv_bipush (v := 32) C.1 C.2.1 dX12_mixKey_6 (by decide) ?_
  refine m_cvv C w hl cvX12_414 (k := 117) (by decide) rfl (q := (RX12, TX12, 58)) rfl rfl (As := [.int (nI (p1)), .ref (r (145)), .int 32]) (rest := []) (c_X12_derived l D b0 r M p1 145 32 (by omega) (by decide) rfl (by decide) (by omega) (by omega) (by omega)) rfl rfl (Nat.le_of_ble_eq_true rfl) ⟨Nat.le_of_ble_eq_true rfl, Nat.le_of_ble_eq_true rfl⟩ ⟨Nat.zero_le _, Nat.zero_le _⟩ dX12_mixKey_8 (fun M_1 H locs eM_1 w => ?_)
  refine lv_aload_n C.1 C.2.1 dX12_mixKey_11 rfl (lv_at hl 0 rfl) ?_
  refine m_get C w (k := 117) (j := 55) (v := .ref (r (170))) flX12_241 (by decide) rfl rfl dX12_mixKey_12 ?_
  refine lv_iconst (v := 0) C.1 C.2.1 dX12_mixKey_15 (by decide) ?_
  refine lv_aload_n C.1 C.2.1 dX12_mixKey_16 rfl (lv_at hl 0 rfl) ?_
  refine m_get C w (k := 117) (j := 42) (v := .ref (r (157))) flX12_201 (by decide) rfl rfl dX12_mixKey_17 ?_
  refine lv_sipush (v := 352) C.1 C.2.1 dX12_mixKey_20 (by decide) ?_
  refine lv_iload_n C.1 C.2.1 dX12_mixKey_23 rfl (lv_at hl 1 rfl) ?_
  refine lv_imul C.1 C.2.1 dX12_mixKey_24 ?_
  refine m_i (y := nI (352 * p1)) (pk_mul 352 p1) ?_
  refine lv_bipush (v := 32) C.1 C.2.1 dX12_mixKey_25 (by decide) ?_
  refine lv_iadd C.1 C.2.1 dX12_mixKey_27 ?_
  refine m_i (y := nI (352 * p1 + 32)) (nI_add (352 * p1) 32) ?_
  refine lv_bipush (v := 32) C.1 C.2.1 dX12_mixKey_28 (by decide) ?_
  refine m_csv C w hl csX12_265 (As := [.ref (r (170)), .int 0, .ref (r (157)), .int (nI (352 * p1 + 32)), .int 32]) (rest := []) (c_X12_copy l D b0 r M_1 170 0 157 (352 * p1 + 32) 32 (by decide) rfl (by decide) (by omega) (by decide) rfl (by decide) (by omega) (by omega) (by omega)) rfl rfl (Nat.le_of_ble_eq_true rfl) ⟨Nat.le_of_ble_eq_true rfl, Nat.le_of_ble_eq_true rfl⟩ ⟨Nat.zero_le _, Nat.zero_le _⟩ dX12_mixKey_30 (fun M_2 H locs eM_2 w => ?_)
  refine lv_aload_n C.1 C.2.1 dX12_mixKey_33 rfl (lv_at hl 0 rfl) ?_
  refine m_get C w (k := 117) (j := 56) (v := .ref (r (171))) flX12_244 (by decide) rfl rfl dX12_mixKey_34 ?_
  refine lv_iconst (v := 0) C.1 C.2.1 dX12_mixKey_37 (by decide) ?_
  refine lv_aload_n C.1 C.2.1 dX12_mixKey_38 rfl (lv_at hl 0 rfl) ?_
  refine m_get C w (k := 117) (j := 42) (v := .ref (r (157))) flX12_201 (by decide) rfl rfl dX12_mixKey_39 ?_
  refine lv_sipush (v := 352) C.1 C.2.1 dX12_mixKey_42 (by decide) ?_
  refine lv_iload_n C.1 C.2.1 dX12_mixKey_45 rfl (lv_at hl 1 rfl) ?_
  refine lv_imul C.1 C.2.1 dX12_mixKey_46 ?_
  refine m_i (y := nI (352 * p1)) (pk_mul 352 p1) ?_
  refine lv_bipush (v := 64) C.1 C.2.1 dX12_mixKey_47 (by decide) ?_
  refine lv_iadd C.1 C.2.1 dX12_mixKey_49 ?_
  refine m_i (y := nI (352 * p1 + 64)) (nI_add (352 * p1) 64) ?_
  refine lv_bipush (v := 32) C.1 C.2.1 dX12_mixKey_50 (by decide) ?_
  refine m_csv C w hl csX12_265 (As := [.ref (r (171)), .int 0, .ref (r (157)), .int (nI (352 * p1 + 64)), .int 32]) (rest := []) (c_X12_copy l D b0 r M_2 171 0 157 (352 * p1 + 64) 32 (by decide) rfl (by decide) (by omega) (by decide) rfl (by decide) (by omega) (by omega) (by omega)) rfl rfl (Nat.le_of_ble_eq_true rfl) ⟨Nat.le_of_ble_eq_true rfl, Nat.le_of_ble_eq_true rfl⟩ ⟨Nat.zero_le _, Nat.zero_le _⟩ dX12_mixKey_52 (fun M_3 H locs eM_3 w => ?_)
  refine lv_aload_n C.1 C.2.1 dX12_mixKey_55 rfl (lv_at hl 0 rfl) ?_
  refine m_get C w (k := 117) (j := 46) (v := .ref (r (161))) flX12_214 (by decide) rfl rfl dX12_mixKey_56 ?_
  refine lv_iload_n C.1 C.2.1 dX12_mixKey_59 rfl (lv_at hl 1 rfl) ?_
  refine lv_iconst (v := 1) C.1 C.2.1 dX12_mixKey_60 (by decide) ?_
  refine m_zast C w (k := 161) (i := p1) (n := 4) (x := (1 : Int32)) (by decide) rfl (by omega) (by decide) (by decide) dX12_mixKey_61 (fun H locs w => ?_)
  obtain ⟨M_4, eM_4⟩ : ∃ zz, zz = mm_w M_3 161 p1 (1 : Int32) := ⟨_, rfl⟩
  rw [← eM_4] at w
  refine lv_aload_n C.1 C.2.1 dX12_mixKey_62 rfl (lv_at hl 0 rfl) ?_
  refine m_get C w (k := 117) (j := 51) (v := .ref (r (166))) flX12_229 (by decide) rfl rfl dX12_mixKey_63 ?_
  refine lv_iload_n C.1 C.2.1 dX12_mixKey_66 rfl (lv_at hl 1 rfl) ?_
  refine lv_lconst (v := 0) C.1 C.2.1 dX12_mixKey_67 (by decide) ?_
  refine m_last C w (k := 166) (i := p1) (n := 4) (x := (0)) (by decide) rfl (by omega) (by decide) dX12_mixKey_68 (fun H locs w => ?_)
  obtain ⟨M_5, eM_5⟩ : ∃ zz, zz = mm_wl M_4 166 p1 (0) := ⟨_, rfl⟩
  rw [← eM_5] at w
  exact m_vret C w (by subst eM_1 eM_2 eM_3 eM_4 eM_5; exact Eq.symm (rfl)) dX12_mixKey_69

def f_X12_agrees (p1 : Nat) (p2 : Nat) (p3 : Nat) (M : mm_M) : mm_M :=
  let M_1 := f_X12_curved 157 (352 * p1 + p2) 157 (352 * p1 + p3) M
  let M_2 := f_X12_mixKey p1 M_1
  M_2
theorem w_f_X12_agrees (p1 : Nat) (p2 : Nat) (p3 : Nat) (M : mm_M) : mm_fr [144, 132, 134, 133, 136, 140, 142, 135, 143, 139, 145, 141, 137, 138, 130, 117, 128, 129, 126, 127, 125, 131, 169, 172, 170, 171, 157, 161, 166] M (f_X12_agrees p1 p2 p3 M) := by
  unfold f_X12_agrees
  exact ((w_f_X12_mixKey _ _).on (by simp) ((w_f_X12_curved _ _ _ _ _).on (by simp) (mm_fr_refl _ _)))
set_option maxHeartbeats 4000000 in
set_option maxRecDepth 100000 in
theorem c_X12_agrees (l : Launch) (D : va_G) (b0 : Nat) (r : Nat → Nat) (M : mm_M) (p1 : Nat) (p2 : Nat) (p3 : Nat) (hs : p1 < 4) (hp2 : p2 + 32 ≤ 352) (hp3 : p3 + 32 ≤ 352) : mm_Mv l yX12_agrees cX12_agrees 4 6 138 D b0 r [.ref (r (117)), .int (nI (p1)), .int (nI (p2)), .int (nI (p3))] M (fun M' => M' = f_X12_agrees p1 p2 p3 M) := by
  refine mm_enter (cc := cX12_agrees) (nL := 4) (ret := none) (by decide) (Nat.le_of_ble_eq_true rfl) ?_
  intro p e s m args below meth c C w ls hl
  have hl : lv_has ls 4 [(0, .ref (r (117))), (1, .int (nI (p1))), (2, .int (nI (p2))), (3, .int (nI (p3)))] := hl
  refine lv_aload_n C.1 C.2.1 dX12_agrees_0 rfl (lv_at hl 0 rfl) ?_
  refine lv_aload_n C.1 C.2.1 dX12_agrees_1 rfl (lv_at hl 0 rfl) ?_
  refine m_get C w (k := 117) (j := 42) (v := .ref (r (157))) flX12_201 (by decide) rfl rfl dX12_agrees_2 ?_
  refine lv_sipush (v := 352) C.1 C.2.1 dX12_agrees_5 (by decide) ?_
  refine lv_iload_n C.1 C.2.1 dX12_agrees_8 rfl (lv_at hl 1 rfl) ?_
  refine lv_imul C.1 C.2.1 dX12_agrees_9 ?_
  refine m_i (y := nI (352 * p1)) (pk_mul 352 p1) ?_
  refine lv_iload_n C.1 C.2.1 dX12_agrees_10 rfl (lv_at hl 2 rfl) ?_
  refine lv_iadd C.1 C.2.1 dX12_agrees_11 ?_
  refine m_i (y := nI (352 * p1 + p2)) (nI_add (352 * p1) p2) ?_
  refine lv_aload_n C.1 C.2.1 dX12_agrees_12 rfl (lv_at hl 0 rfl) ?_
  refine m_get C w (k := 117) (j := 42) (v := .ref (r (157))) flX12_201 (by decide) rfl rfl dX12_agrees_13 ?_
  refine lv_sipush (v := 352) C.1 C.2.1 dX12_agrees_16 (by decide) ?_
  refine lv_iload_n C.1 C.2.1 dX12_agrees_19 rfl (lv_at hl 1 rfl) ?_
  refine lv_imul C.1 C.2.1 dX12_agrees_20 ?_
  refine m_i (y := nI (352 * p1)) (pk_mul 352 p1) ?_
  refine lv_iload_n C.1 C.2.1 dX12_agrees_21 rfl (lv_at hl 3 rfl) ?_
  refine lv_iadd C.1 C.2.1 dX12_agrees_22 ?_
  refine m_i (y := nI (352 * p1 + p3)) (nI_add (352 * p1) p3) ?_
  refine m_cvv C w hl cvX12_322 (k := 117) (by decide) rfl (q := (RX12, TX12, 58)) rfl rfl (As := [.ref (r (157)), .int (nI (352 * p1 + p2)), .ref (r (157)), .int (nI (352 * p1 + p3))]) (rest := []) (c_X12_curved l D b0 r M 157 (352 * p1 + p2) 157 (352 * p1 + p3) (by decide) rfl (by decide) (by omega) (by omega) (by decide) rfl (by decide) (by omega) (by omega)) rfl rfl (Nat.le_of_ble_eq_true rfl) ⟨Nat.le_of_ble_eq_true rfl, Nat.le_of_ble_eq_true rfl⟩ ⟨Nat.zero_le _, Nat.zero_le _⟩ dX12_agrees_23 (fun M_1 H locs eM_1 w => ?_)
  refine lv_aload_n C.1 C.2.1 dX12_agrees_26 rfl (lv_at hl 0 rfl) ?_
  refine lv_iload_n C.1 C.2.1 dX12_agrees_27 rfl (lv_at hl 1 rfl) ?_
  refine m_cvv C w hl cvX12_418 (k := 117) (by decide) rfl (q := (RX12, TX12, 58)) rfl rfl (As := [.int (nI (p1))]) (rest := []) (c_X12_mixKey l D b0 r M_1 p1 (by omega)) rfl rfl (Nat.le_of_ble_eq_true rfl) ⟨Nat.le_of_ble_eq_true rfl, Nat.le_of_ble_eq_true rfl⟩ ⟨Nat.zero_le _, Nat.zero_le _⟩ dX12_agrees_28 (fun M_2 H locs eM_2 w => ?_)
  exact m_vret C w (by subst eM_1 eM_2; exact Eq.symm (rfl)) dX12_agrees_31

def f_X12_split (p1 : Nat) (M : mm_M) : mm_M :=
  let M_1 := f_X12_derived p1 145 0 M
  let M_2 := f_X12_copy 170 0 157 (352 * p1 + 288) 32 M_1
  let M_3 := f_X12_copy 171 0 157 (352 * p1 + 320) 32 M_2
  M_3
theorem w_f_X12_split (p1 : Nat) (M : mm_M) : mm_fr [130, 117, 128, 129, 126, 127, 125, 131, 169, 172, 170, 171, 157] M (f_X12_split p1 M) := by
  unfold f_X12_split
  exact ((w_f_X12_copy _ _ _ _ _ _).on (by simp) ((w_f_X12_copy _ _ _ _ _ _).on (by simp) ((w_f_X12_derived _ _ _ _).on (by simp) (mm_fr_refl _ _))))
set_option maxHeartbeats 4000000 in
set_option maxRecDepth 100000 in
theorem c_X12_split (l : Launch) (D : va_G) (b0 : Nat) (r : Nat → Nat) (M : mm_M) (p1 : Nat) (hs : p1 < 4) : mm_Mv l yX12_split cX12_split 2 5 117 D b0 r [.ref (r (117)), .int (nI (p1))] M (fun M' => M' = f_X12_split p1 M) := by
  refine mm_enter (cc := cX12_split) (nL := 2) (ret := none) (by decide) (Nat.le_of_ble_eq_true rfl) ?_
  intro p e s m args below meth c C w ls hl
  have hl : lv_has ls 2 [(0, .ref (r (117))), (1, .int (nI (p1)))] := hl
  refine lv_aload_n C.1 C.2.1 dX12_split_0 rfl (lv_at hl 0 rfl) ?_
  refine lv_iload_n C.1 C.2.1 dX12_split_1 rfl (lv_at hl 1 rfl) ?_
  refine lv_aload_n C.1 C.2.1 dX12_split_2 rfl (lv_at hl 0 rfl) ?_
  refine m_get C w (k := 117) (j := 30) (v := .ref (r (145))) flX12_165 (by decide) rfl rfl dX12_split_3 ?_
  refine lv_iconst (v := 0) C.1 C.2.1 dX12_split_6 (by decide) ?_
  refine m_cvv C w hl cvX12_414 (k := 117) (by decide) rfl (q := (RX12, TX12, 58)) rfl rfl (As := [.int (nI (p1)), .ref (r (145)), .int 0]) (rest := []) (c_X12_derived l D b0 r M p1 145 0 (by omega) (by decide) rfl (by decide) (by omega) (by omega) (by omega)) rfl rfl (Nat.le_of_ble_eq_true rfl) ⟨Nat.le_of_ble_eq_true rfl, Nat.le_of_ble_eq_true rfl⟩ ⟨Nat.zero_le _, Nat.zero_le _⟩ dX12_split_7 (fun M_1 H locs eM_1 w => ?_)
  refine lv_aload_n C.1 C.2.1 dX12_split_10 rfl (lv_at hl 0 rfl) ?_
  refine m_get C w (k := 117) (j := 55) (v := .ref (r (170))) flX12_241 (by decide) rfl rfl dX12_split_11 ?_
  refine lv_iconst (v := 0) C.1 C.2.1 dX12_split_14 (by decide) ?_
  refine lv_aload_n C.1 C.2.1 dX12_split_15 rfl (lv_at hl 0 rfl) ?_
  refine m_get C w (k := 117) (j := 42) (v := .ref (r (157))) flX12_201 (by decide) rfl rfl dX12_split_16 ?_
  refine lv_sipush (v := 352) C.1 C.2.1 dX12_split_19 (by decide) ?_
  refine lv_iload_n C.1 C.2.1 dX12_split_22 rfl (lv_at hl 1 rfl) ?_
  refine lv_imul C.1 C.2.1 dX12_split_23 ?_
  refine m_i (y := nI (352 * p1)) (pk_mul 352 p1) ?_
  refine lv_sipush (v := 288) C.1 C.2.1 dX12_split_24 (by decide) ?_
  refine lv_iadd C.1 C.2.1 dX12_split_27 ?_
  refine m_i (y := nI (352 * p1 + 288)) (nI_add (352 * p1) 288) ?_
  refine lv_bipush (v := 32) C.1 C.2.1 dX12_split_28 (by decide) ?_
  refine m_csv C w hl csX12_265 (As := [.ref (r (170)), .int 0, .ref (r (157)), .int (nI (352 * p1 + 288)), .int 32]) (rest := []) (c_X12_copy l D b0 r M_1 170 0 157 (352 * p1 + 288) 32 (by decide) rfl (by decide) (by omega) (by decide) rfl (by decide) (by omega) (by omega) (by omega)) rfl rfl (Nat.le_of_ble_eq_true rfl) ⟨Nat.le_of_ble_eq_true rfl, Nat.le_of_ble_eq_true rfl⟩ ⟨Nat.zero_le _, Nat.zero_le _⟩ dX12_split_30 (fun M_2 H locs eM_2 w => ?_)
  refine lv_aload_n C.1 C.2.1 dX12_split_33 rfl (lv_at hl 0 rfl) ?_
  refine m_get C w (k := 117) (j := 56) (v := .ref (r (171))) flX12_244 (by decide) rfl rfl dX12_split_34 ?_
  refine lv_iconst (v := 0) C.1 C.2.1 dX12_split_37 (by decide) ?_
  refine lv_aload_n C.1 C.2.1 dX12_split_38 rfl (lv_at hl 0 rfl) ?_
  refine m_get C w (k := 117) (j := 42) (v := .ref (r (157))) flX12_201 (by decide) rfl rfl dX12_split_39 ?_
  refine lv_sipush (v := 352) C.1 C.2.1 dX12_split_42 (by decide) ?_
  refine lv_iload_n C.1 C.2.1 dX12_split_45 rfl (lv_at hl 1 rfl) ?_
  refine lv_imul C.1 C.2.1 dX12_split_46 ?_
  refine m_i (y := nI (352 * p1)) (pk_mul 352 p1) ?_
  refine lv_sipush (v := 320) C.1 C.2.1 dX12_split_47 (by decide) ?_
  refine lv_iadd C.1 C.2.1 dX12_split_50 ?_
  refine m_i (y := nI (352 * p1 + 320)) (nI_add (352 * p1) 320) ?_
  refine lv_bipush (v := 32) C.1 C.2.1 dX12_split_51 (by decide) ?_
  refine m_csv C w hl csX12_265 (As := [.ref (r (171)), .int 0, .ref (r (157)), .int (nI (352 * p1 + 320)), .int 32]) (rest := []) (c_X12_copy l D b0 r M_2 171 0 157 (352 * p1 + 320) 32 (by decide) rfl (by decide) (by omega) (by decide) rfl (by decide) (by omega) (by omega) (by omega)) rfl rfl (Nat.le_of_ble_eq_true rfl) ⟨Nat.le_of_ble_eq_true rfl, Nat.le_of_ble_eq_true rfl⟩ ⟨Nat.zero_le _, Nat.zero_le _⟩ dX12_split_53 (fun M_3 H locs eM_3 w => ?_)
  exact m_vret C w (by subst eM_1 eM_2 eM_3; exact Eq.symm (rfl)) dX12_split_56

def f_X12_sealsInto (p1 : Nat) (k1 : Nat) (p2 : Nat) (p3 : Nat) (p4 : Nat) (M : mm_M) : Int32 × mm_M :=
  if (M.1 161 p1) = (0 : Int32) then (let M_2 := f_X12_copy k1 p2 120 p4 p3 M
  let M_3 := f_X12_mixHash p1 120 p4 p3 M_2
  ((nI (p4 + p3)), M_3)) else (let M_4 := f_X12_seals 157 (352 * p1 + 64) (M.2 166 p1) 157 (352 * p1) 32 k1 p2 p3 120 p4 M
  let M_5 := mm_wl M_4 166 p1 ((M_4.2 166 p1) + (1))
  let M_6 := f_X12_mixHash p1 120 p4 (p3 + 16) M_5
  ((nI (p4 + (p3 + 16))), M_6))
theorem w_f_X12_sealsInto (p1 : Nat) (k1 : Nat) (p2 : Nat) (p3 : Nat) (p4 : Nat) (M : mm_M) : mm_fr2 [120, 117, 128, 129, 126, 127, 125, 157, 147, 149, 148, 155, 151, 150, 152, 153, 156, 154, 166] M (f_X12_sealsInto p1 k1 p2 p3 p4 M) := by
  unfold f_X12_sealsInto
  exact (mm_fr_ite2 (fun _ => ((w_f_X12_mixHash _ _ _ _ _).on (by simp) ((w_f_X12_copy _ _ _ _ _ _).on (by simp) (mm_fr_refl _ _))).b) (fun _ => ((w_f_X12_mixHash _ _ _ _ _).on (by simp) (mm_fr_wl (by simp) ((w_f_X12_seals _ _ _ _ _ _ _ _ _ _ _ _).on (by simp) (mm_fr_refl _ _)))).b))
set_option maxHeartbeats 4000000 in
set_option maxRecDepth 100000 in
theorem c_X12_sealsInto (l : Launch) (D : va_G) (b0 : Nat) (r : Nat → Nat) (M : mm_M) (p1 : Nat) (k1 : Nat) (p2 : Nat) (p3 : Nat) (p4 : Nat) (hs : p1 < 4) {n1 : Nat} {w1 : Bool} (hk1 : k1 < 181) (hs1 : mm_sh k1 = .inl (.byte, n1, w1)) (hn1 : n1 < 2 ^ 31) (hp1 : p2 + p3 ≤ n1) (hq1 : n1 < 2 ^ 30) (hp4 : p4 + p3 + 16 ≤ 1100) : mm_Mi l yX12_sealsInto cX12_sealsInto 8 .int 5 134 D b0 r [.ref (r (117)), .int (nI (p1)), .ref (r (k1)), .int (nI (p2)), .int (nI (p3)), .int (nI (p4))] M (fun v M' => (v, M') = f_X12_sealsInto p1 k1 p2 p3 p4 M) := by
  refine mm_enter (cc := cX12_sealsInto) (nL := 8) (ret := (some .int)) (by decide) (Nat.le_of_ble_eq_true rfl) ?_
  intro p e s m args below meth c C w ls hl
  have hl : lv_has ls 8 [(0, .ref (r (117))), (1, .int (nI (p1))), (2, .ref (r (k1))), (3, .int (nI (p2))), (4, .int (nI (p3))), (5, .int (nI (p4)))] := hl
  refine lv_sipush (v := 352) C.1 C.2.1 dX12_sealsInto_0 (by decide) ?_
  refine lv_iload_n C.1 C.2.1 dX12_sealsInto_3 rfl (lv_at hl 1 rfl) ?_
  refine lv_imul C.1 C.2.1 dX12_sealsInto_4 ?_
  refine m_i (y := nI (352 * p1)) (pk_mul 352 p1) ?_
  refine lv_istore (lv' := [(6, .int (nI (352 * p1))), (0, .ref (r (117))), (1, .int (nI (p1))), (2, .ref (r (k1))), (3, .int (nI (p2))), (4, .int (nI (p3))), (5, .int (nI (p4)))]) C.1 C.2.1 dX12_sealsInto_5 hl (by decide) rfl (fun ls hl => ?_)
  refine lv_iload C.1 C.2.1 dX12_sealsInto_7 (lv_at hl 5 rfl) ?_
  refine lv_istore (lv' := [(7, .int (nI (p3))), (6, .int (nI (352 * p1))), (0, .ref (r (117))), (1, .int (nI (p1))), (2, .ref (r (k1))), (3, .int (nI (p2))), (4, .int (nI (p3))), (5, .int (nI (p4)))]) C.1 C.2.1 dX12_sealsInto_9 hl (by decide) rfl (fun ls hl => ?_)
  refine lv_aload_n C.1 C.2.1 dX12_sealsInto_11 rfl (lv_at hl 2 rfl) ?_
  refine m_get C w (k := 117) (j := 46) (v := .ref (r (161))) flX12_214 (by decide) rfl rfl dX12_sealsInto_12 ?_
  refine lv_iload_n C.1 C.2.1 dX12_sealsInto_15 rfl (lv_at hl 3 rfl) ?_
  refine m_zald C w (k := 161) (i := p1) (n := 4) (wr := true) (by decide) rfl (by omega) (by decide) dX12_sealsInto_16 ?_
  refine lv_if_eq (tgt := 79) C.1 C.2.1 dX12_sealsInto_17 (by decide) (fun h_1 => ?_) (fun h_1 => ?_)
  · refine lv_aload_n C.1 C.2.1 dX12_sealsInto_79 rfl (lv_at hl 4 rfl) ?_
    refine lv_iload_n C.1 C.2.1 dX12_sealsInto_80 rfl (lv_at hl 5 rfl) ?_
    refine lv_aload_n C.1 C.2.1 dX12_sealsInto_81 rfl (lv_at hl 2 rfl) ?_
    refine m_get C w (k := 117) (j := 2) (v := .ref (r (120))) flX12_16 (by decide) rfl rfl dX12_sealsInto_82 ?_
    refine lv_iload C.1 C.2.1 dX12_sealsInto_85 (lv_at hl 7 rfl) ?_
    refine lv_iload C.1 C.2.1 dX12_sealsInto_87 (lv_at hl 6 rfl) ?_
    refine m_csv C w hl csX12_265 (As := [.ref (r (k1)), .int (nI (p2)), .ref (r (120)), .int (nI (p4)), .int (nI (p3))]) (rest := []) (c_X12_copy l D b0 r M k1 p2 120 p4 p3 hk1 hs1 hn1 (by omega) (by decide) rfl (by decide) (by omega) (by omega) (by omega)) rfl rfl (Nat.le_of_ble_eq_true rfl) ⟨Nat.le_of_ble_eq_true rfl, Nat.le_of_ble_eq_true rfl⟩ ⟨Nat.zero_le _, Nat.zero_le _⟩ dX12_sealsInto_89 (fun M_2 H locs eM_2 w => ?_)
    refine lv_aload_n C.1 C.2.1 dX12_sealsInto_92 rfl (lv_at hl 2 rfl) ?_
    refine lv_iload_n C.1 C.2.1 dX12_sealsInto_93 rfl (lv_at hl 3 rfl) ?_
    refine lv_aload_n C.1 C.2.1 dX12_sealsInto_94 rfl (lv_at hl 2 rfl) ?_
    refine m_get C w (k := 117) (j := 2) (v := .ref (r (120))) flX12_16 (by decide) rfl rfl dX12_sealsInto_95 ?_
    refine lv_iload C.1 C.2.1 dX12_sealsInto_98 (lv_at hl 7 rfl) ?_
    refine lv_iload C.1 C.2.1 dX12_sealsInto_100 (lv_at hl 0 rfl) ?_
    refine m_cvv C w hl cvX12_410 (k := 117) (by decide) rfl (q := (RX12, TX12, 58)) rfl rfl (As := [.int (nI (p1)), .ref (r (120)), .int (nI (p4)), .int (nI (p3))]) (rest := []) (c_X12_mixHash l D b0 r M_2 p1 120 p4 p3 (by omega) (by decide) rfl (by decide) (by omega) (by omega) (by omega)) rfl rfl (Nat.le_of_ble_eq_true rfl) ⟨Nat.le_of_ble_eq_true rfl, Nat.le_of_ble_eq_true rfl⟩ ⟨Nat.zero_le _, Nat.zero_le _⟩ dX12_sealsInto_102 (fun M_3 H locs eM_3 w => ?_)
    refine lv_iload C.1 C.2.1 dX12_sealsInto_105 (lv_at hl 7 rfl) ?_
    refine lv_iload C.1 C.2.1 dX12_sealsInto_107 (lv_at hl 0 rfl) ?_
    refine lv_iadd C.1 C.2.1 dX12_sealsInto_109 ?_
    refine m_i (y := nI (p4 + p3)) (nI_add p4 p3) ?_
    exact m_iret C w (by subst eM_2 eM_3; exact Eq.symm (((if_pos h_1).trans rfl))) dX12_sealsInto_110
  · refine lv_aload_n C.1 C.2.1 dX12_sealsInto_20 rfl (lv_at hl 2 rfl) ?_
    refine lv_aload_n C.1 C.2.1 dX12_sealsInto_21 rfl (lv_at hl 2 rfl) ?_
    refine m_get C w (k := 117) (j := 42) (v := .ref (r (157))) flX12_201 (by decide) rfl rfl dX12_sealsInto_22 ?_
    refine lv_iload C.1 C.2.1 dX12_sealsInto_25 (lv_at hl 1 rfl) ?_
    refine lv_bipush (v := 64) C.1 C.2.1 dX12_sealsInto_27 (by decide) ?_
    refine lv_iadd C.1 C.2.1 dX12_sealsInto_29 ?_
    refine m_i (y := nI (352 * p1 + 64)) (nI_add (352 * p1) 64) ?_
    refine lv_aload_n C.1 C.2.1 dX12_sealsInto_30 rfl (lv_at hl 2 rfl) ?_
    refine m_get C w (k := 117) (j := 51) (v := .ref (r (166))) flX12_229 (by decide) rfl rfl dX12_sealsInto_31 ?_
    refine lv_iload_n C.1 C.2.1 dX12_sealsInto_34 rfl (lv_at hl 3 rfl) ?_
    refine m_lald C w (k := 166) (i := p1) (n := 4) (wr := true) (by decide) rfl (by omega) (by decide) dX12_sealsInto_35 ?_
    refine lv_aload_n C.1 C.2.1 dX12_sealsInto_36 rfl (lv_at hl 2 rfl) ?_
    refine m_get C w (k := 117) (j := 42) (v := .ref (r (157))) flX12_201 (by decide) rfl rfl dX12_sealsInto_37 ?_
    refine lv_iload C.1 C.2.1 dX12_sealsInto_40 (lv_at hl 1 rfl) ?_
    refine lv_iconst (v := 0) C.1 C.2.1 dX12_sealsInto_42 (by decide) ?_
    refine lv_iadd C.1 C.2.1 dX12_sealsInto_43 ?_
    refine m_i (y := nI (352 * p1)) (nI_add (352 * p1) 0) ?_
    refine lv_bipush (v := 32) C.1 C.2.1 dX12_sealsInto_44 (by decide) ?_
    refine lv_aload_n C.1 C.2.1 dX12_sealsInto_46 rfl (lv_at hl 4 rfl) ?_
    refine lv_iload_n C.1 C.2.1 dX12_sealsInto_47 rfl (lv_at hl 5 rfl) ?_
    refine lv_iload C.1 C.2.1 dX12_sealsInto_48 (lv_at hl 6 rfl) ?_
    refine lv_aload_n C.1 C.2.1 dX12_sealsInto_50 rfl (lv_at hl 2 rfl) ?_
    refine m_get C w (k := 117) (j := 2) (v := .ref (r (120))) flX12_16 (by decide) rfl rfl dX12_sealsInto_51 ?_
    refine lv_iload C.1 C.2.1 dX12_sealsInto_54 (lv_at hl 7 rfl) ?_
    refine m_cvv C w hl cvX12_394 (k := 117) (by decide) rfl (q := (RX12, TX12, 58)) rfl rfl (As := [.ref (r (157)), .int (nI (352 * p1 + 64)), .long (M.2 166 p1), .ref (r (157)), .int (nI (352 * p1)), .int 32, .ref (r (k1)), .int (nI (p2)), .int (nI (p3)), .ref (r (120)), .int (nI (p4))]) (rest := []) (c_X12_seals l D b0 r M 157 (352 * p1 + 64) (M.2 166 p1) 157 (352 * p1) 32 k1 p2 p3 120 p4 (by decide) rfl (by decide) (by omega) (by omega) (by decide) rfl (by decide) (by omega) (by omega) hk1 hs1 hn1 (by omega) (by omega) (by decide) rfl (by decide) (by omega) (by omega)) rfl rfl (Nat.le_of_ble_eq_true rfl) ⟨Nat.le_of_ble_eq_true rfl, Nat.le_of_ble_eq_true rfl⟩ ⟨Nat.zero_le _, Nat.zero_le _⟩ dX12_sealsInto_56 (fun M_4 H locs eM_4 w => ?_)
    refine lv_aload_n C.1 C.2.1 dX12_sealsInto_59 rfl (lv_at hl 2 rfl) ?_
    refine m_get C w (k := 117) (j := 51) (v := .ref (r (166))) flX12_229 (by decide) rfl rfl dX12_sealsInto_60 ?_
    refine lv_iload_n C.1 C.2.1 dX12_sealsInto_63 rfl (lv_at hl 3 rfl) ?_
    refine lv_dup2_11 C.1 C.2.1 dX12_sealsInto_64 rfl rfl ?_
    refine m_lald C w (k := 166) (i := p1) (n := 4) (wr := true) (by decide) rfl (by omega) (by decide) dX12_sealsInto_65 ?_
    refine lv_lconst (v := 1) C.1 C.2.1 dX12_sealsInto_66 (by decide) ?_
    refine lv_ladd C.1 C.2.1 dX12_sealsInto_67 ?_
    refine m_last C w (k := 166) (i := p1) (n := 4) (x := ((M_4.2 166 p1) + (1))) (by decide) rfl (by omega) (by decide) dX12_sealsInto_68 (fun H locs w => ?_)
    obtain ⟨M_5, eM_5⟩ : ∃ zz, zz = mm_wl M_4 166 p1 ((M_4.2 166 p1) + (1)) := ⟨_, rfl⟩
    rw [← eM_5] at w
    refine lv_iload C.1 C.2.1 dX12_sealsInto_69 (lv_at hl 6 rfl) ?_
    refine lv_bipush (v := 16) C.1 C.2.1 dX12_sealsInto_71 (by decide) ?_
    refine lv_iadd C.1 C.2.1 dX12_sealsInto_73 ?_
    refine m_i (y := nI (p3 + 16)) (nI_add p3 16) ?_
    refine lv_istore (lv' := [(7, .int (nI (p3 + 16))), (6, .int (nI (352 * p1))), (0, .ref (r (117))), (1, .int (nI (p1))), (2, .ref (r (k1))), (3, .int (nI (p2))), (4, .int (nI (p3))), (5, .int (nI (p4)))]) C.1 C.2.1 dX12_sealsInto_74 hl (by decide) rfl (fun ls hl => ?_)
    refine lv_goto (tgt := 92) C.1 C.2.1 dX12_sealsInto_76 (by decide) ?_
    refine lv_aload_n C.1 C.2.1 dX12_sealsInto_92 rfl (lv_at hl 2 rfl) ?_
    refine lv_iload_n C.1 C.2.1 dX12_sealsInto_93 rfl (lv_at hl 3 rfl) ?_
    refine lv_aload_n C.1 C.2.1 dX12_sealsInto_94 rfl (lv_at hl 2 rfl) ?_
    refine m_get C w (k := 117) (j := 2) (v := .ref (r (120))) flX12_16 (by decide) rfl rfl dX12_sealsInto_95 ?_
    refine lv_iload C.1 C.2.1 dX12_sealsInto_98 (lv_at hl 7 rfl) ?_
    refine lv_iload C.1 C.2.1 dX12_sealsInto_100 (lv_at hl 0 rfl) ?_
    refine m_cvv C w hl cvX12_410 (k := 117) (by decide) rfl (q := (RX12, TX12, 58)) rfl rfl (As := [.int (nI (p1)), .ref (r (120)), .int (nI (p4)), .int (nI (p3 + 16))]) (rest := []) (c_X12_mixHash l D b0 r M_5 p1 120 p4 (p3 + 16) (by omega) (by decide) rfl (by decide) (by omega) (by omega) (by omega)) rfl rfl (Nat.le_of_ble_eq_true rfl) ⟨Nat.le_of_ble_eq_true rfl, Nat.le_of_ble_eq_true rfl⟩ ⟨Nat.zero_le _, Nat.zero_le _⟩ dX12_sealsInto_102 (fun M_6 H locs eM_6 w => ?_)
    refine lv_iload C.1 C.2.1 dX12_sealsInto_105 (lv_at hl 7 rfl) ?_
    refine lv_iload C.1 C.2.1 dX12_sealsInto_107 (lv_at hl 0 rfl) ?_
    refine lv_iadd C.1 C.2.1 dX12_sealsInto_109 ?_
    refine m_i (y := nI (p4 + (p3 + 16))) (nI_add p4 (p3 + 16)) ?_
    exact m_iret C w (by subst eM_4 eM_5 eM_6; exact Eq.symm (((if_neg h_1).trans rfl))) dX12_sealsInto_110

theorem mm_ge0 {n : Nat} (h : n < 2 ^ 31) : 0 ≤ nI n := Int32.not_lt.mp (nI_pos h)

def f_X12_opensFrom_B1 (p1 : Nat) (p2 : Nat) (p3 : Nat) (M_3 : mm_M) (v_4 : Int32) : Int32 × mm_M :=
  if ¬ (v_4) = (0 : Int32) then (let M_6 := mm_wl M_3 166 p1 ((M_3.2 166 p1) + (1))
  let M_7 := f_X12_mixHash p1 119 p2 p3 M_6
  ((1 : Int32), M_7)) else (((0 : Int32), M_3))
theorem w_f_X12_opensFrom_B1 (p1 : Nat) (p2 : Nat) (p3 : Nat) (M_3 : mm_M) (v_4 : Int32) : mm_fr2 [166, 117, 128, 129, 126, 127, 125, 157] M_3 (f_X12_opensFrom_B1 p1 p2 p3 M_3 v_4) := by
  unfold f_X12_opensFrom_B1
  exact (mm_fr_ite2 (fun _ => ((w_f_X12_mixHash _ _ _ _ _).on (by simp) (mm_fr_wl (by simp) (mm_fr_refl _ _))).b) (fun _ => (mm_fr_refl _ _).b))
def f_X12_opensFrom (p1 : Nat) (p2 : Nat) (p3 : Nat) (p4 : Nat) (M : mm_M) : Int32 × mm_M :=
  if ¬ (M.1 161 p1) = (0 : Int32) then (let v_4 := (f_X12_opens 157 (352 * p1 + 64) (M.2 166 p1) 157 (352 * p1) 32 119 p2 p3 120 p4 M).1
  let M_3 := (f_X12_opens 157 (352 * p1 + 64) (M.2 166 p1) 157 (352 * p1) 32 119 p2 p3 120 p4 M).2
  f_X12_opensFrom_B1 p1 p2 p3 M_3 v_4) else (let M_8 := f_X12_copy 119 p2 120 p4 p3 M
  let M_9 := f_X12_mixHash p1 119 p2 p3 M_8
  ((1 : Int32), M_9))
theorem w_f_X12_opensFrom (p1 : Nat) (p2 : Nat) (p3 : Nat) (p4 : Nat) (M : mm_M) : mm_fr2 [147, 149, 148, 155, 151, 150, 152, 153, 156, 154, 120, 166, 117, 128, 129, 126, 127, 125, 157] M (f_X12_opensFrom p1 p2 p3 p4 M) := by
  unfold f_X12_opensFrom
  exact (mm_fr_ite2 (fun _ => ((w_f_X12_opensFrom_B1 _ _ _ _ _).on (by simp) ((w_f_X12_opens _ _ _ _ _ _ _ _ _ _ _ _).m.on (by simp) (mm_fr_refl _ _)))) (fun _ => ((w_f_X12_mixHash _ _ _ _ _).on (by simp) ((w_f_X12_copy _ _ _ _ _ _).on (by simp) (mm_fr_refl _ _))).b))
set_option maxHeartbeats 4000000 in
set_option maxRecDepth 100000 in
theorem c_X12_opensFrom (l : Launch) (D : va_G) (b0 : Nat) (r : Nat → Nat) (M : mm_M) (p1 : Nat) (p2 : Nat) (p3 : Nat) (p4 : Nat) (hs : p1 < 4) (hp2 : p2 + p3 ≤ 1000) (hp4 : p4 + p3 ≤ 1100) : mm_Mi l yX12_opensFrom cX12_opensFrom 6 .boolean 5 135 D b0 r [.ref (r (117)), .int (nI (p1)), .int (nI (p2)), .int (nI (p3)), .int (nI (p4))] M (fun v M' => (v, M') = f_X12_opensFrom p1 p2 p3 p4 M) := by
  refine mm_enter (cc := cX12_opensFrom) (nL := 6) (ret := (some .boolean)) (by decide) (Nat.le_of_ble_eq_true rfl) ?_
  intro p e s m args below meth c C w ls hl
  have hl : lv_has ls 6 [(0, .ref (r (117))), (1, .int (nI (p1))), (2, .int (nI (p2))), (3, .int (nI (p3))), (4, .int (nI (p4)))] := hl
  refine lv_sipush (v := 352) C.1 C.2.1 dX12_opensFrom_0 (by decide) ?_
  refine lv_iload_n C.1 C.2.1 dX12_opensFrom_3 rfl (lv_at hl 1 rfl) ?_
  refine lv_imul C.1 C.2.1 dX12_opensFrom_4 ?_
  refine m_i (y := nI (352 * p1)) (pk_mul 352 p1) ?_
  refine lv_istore (lv' := [(5, .int (nI (352 * p1))), (0, .ref (r (117))), (1, .int (nI (p1))), (2, .int (nI (p2))), (3, .int (nI (p3))), (4, .int (nI (p4)))]) C.1 C.2.1 dX12_opensFrom_5 hl (by decide) rfl (fun ls hl => ?_)
  refine lv_iload_n C.1 C.2.1 dX12_opensFrom_7 rfl (lv_at hl 4 rfl) ?_
  refine lv_if_ge (tgt := 13) C.1 C.2.1 dX12_opensFrom_8 (by decide) (fun _ => ?_) (fun h_1 => absurd h_1 (fun q => q (mm_ge0 (by omega))))
  refine lv_aload_n C.1 C.2.1 dX12_opensFrom_13 rfl (lv_at hl 1 rfl) ?_
  refine m_get C w (k := 117) (j := 46) (v := .ref (r (161))) flX12_214 (by decide) rfl rfl dX12_opensFrom_14 ?_
  refine lv_iload_n C.1 C.2.1 dX12_opensFrom_17 rfl (lv_at hl 2 rfl) ?_
  refine m_zald C w (k := 161) (i := p1) (n := 4) (wr := true) (by decide) rfl (by omega) (by decide) dX12_opensFrom_18 ?_
  refine lv_if_ne (tgt := 40) C.1 C.2.1 dX12_opensFrom_19 (by decide) (fun h_2 => ?_) (fun h_2 => ?_)
  · refine lv_aload_n C.1 C.2.1 dX12_opensFrom_40 rfl (lv_at hl 1 rfl) ?_
    refine lv_aload_n C.1 C.2.1 dX12_opensFrom_41 rfl (lv_at hl 1 rfl) ?_
    refine m_get C w (k := 117) (j := 42) (v := .ref (r (157))) flX12_201 (by decide) rfl rfl dX12_opensFrom_42 ?_
    refine lv_iload C.1 C.2.1 dX12_opensFrom_45 (lv_at hl 0 rfl) ?_
    refine lv_bipush (v := 64) C.1 C.2.1 dX12_opensFrom_47 (by decide) ?_
    refine lv_iadd C.1 C.2.1 dX12_opensFrom_49 ?_
    refine m_i (y := nI (352 * p1 + 64)) (nI_add (352 * p1) 64) ?_
    refine lv_aload_n C.1 C.2.1 dX12_opensFrom_50 rfl (lv_at hl 1 rfl) ?_
    refine m_get C w (k := 117) (j := 51) (v := .ref (r (166))) flX12_229 (by decide) rfl rfl dX12_opensFrom_51 ?_
    refine lv_iload_n C.1 C.2.1 dX12_opensFrom_54 rfl (lv_at hl 2 rfl) ?_
    refine m_lald C w (k := 166) (i := p1) (n := 4) (wr := true) (by decide) rfl (by omega) (by decide) dX12_opensFrom_55 ?_
    refine lv_aload_n C.1 C.2.1 dX12_opensFrom_56 rfl (lv_at hl 1 rfl) ?_
    refine m_get C w (k := 117) (j := 42) (v := .ref (r (157))) flX12_201 (by decide) rfl rfl dX12_opensFrom_57 ?_
    refine lv_iload C.1 C.2.1 dX12_opensFrom_60 (lv_at hl 0 rfl) ?_
    refine lv_iconst (v := 0) C.1 C.2.1 dX12_opensFrom_62 (by decide) ?_
    refine lv_iadd C.1 C.2.1 dX12_opensFrom_63 ?_
    refine m_i (y := nI (352 * p1)) (nI_add (352 * p1) 0) ?_
    refine lv_bipush (v := 32) C.1 C.2.1 dX12_opensFrom_64 (by decide) ?_
    refine lv_aload_n C.1 C.2.1 dX12_opensFrom_66 rfl (lv_at hl 1 rfl) ?_
    refine m_get C w (k := 117) (j := 1) (v := .ref (r (119))) flX12_13 (by decide) rfl rfl dX12_opensFrom_67 ?_
    refine lv_iload_n C.1 C.2.1 dX12_opensFrom_70 rfl (lv_at hl 3 rfl) ?_
    refine lv_iload_n C.1 C.2.1 dX12_opensFrom_71 rfl (lv_at hl 4 rfl) ?_
    refine lv_aload_n C.1 C.2.1 dX12_opensFrom_72 rfl (lv_at hl 1 rfl) ?_
    refine m_get C w (k := 117) (j := 2) (v := .ref (r (120))) flX12_16 (by decide) rfl rfl dX12_opensFrom_73 ?_
    refine lv_iload C.1 C.2.1 dX12_opensFrom_76 (lv_at hl 5 rfl) ?_
    refine m_cvi C w hl cvX12_398 (k := 117) (by decide) rfl (q := (RX12, TX12, 58)) rfl rfl (As := [.ref (r (157)), .int (nI (352 * p1 + 64)), .long (M.2 166 p1), .ref (r (157)), .int (nI (352 * p1)), .int 32, .ref (r (119)), .int (nI (p2)), .int (nI (p3)), .ref (r (120)), .int (nI (p4))]) (rest := []) (c_X12_opens l D b0 r M 157 (352 * p1 + 64) (M.2 166 p1) 157 (352 * p1) 32 119 p2 p3 120 p4 (by decide) rfl (by decide) (by omega) (by omega) (by decide) rfl (by decide) (by omega) (by omega) (by decide) rfl (by decide) (by omega) (by omega) (by decide) rfl (by decide) (by omega) (by omega)) rfl rfl (Nat.le_of_ble_eq_true rfl) ⟨Nat.le_of_ble_eq_true rfl, Nat.le_of_ble_eq_true rfl⟩ ⟨Nat.zero_le _, Nat.zero_le _⟩ dX12_opensFrom_78 (fun v_4 M_3 H locs e9 w => ?_)
    obtain ⟨ev_4, eM_3⟩ : v_4 = (f_X12_opens 157 (352 * p1 + 64) (M.2 166 p1) 157 (352 * p1) 32 119 p2 p3 120 p4 M).1 ∧ M_3 = (f_X12_opens 157 (352 * p1 + 64) (M.2 166 p1) 157 (352 * p1) 32 119 p2 p3 120 p4 M).2 := ⟨congrArg Prod.fst e9, congrArg Prod.snd e9⟩
    clear e9
    refine lv_if_ne (tgt := 86) C.1 C.2.1 dX12_opensFrom_81 (by decide) (fun h_5 => ?_) (fun h_5 => ?_)
    · refine lv_aload_n C.1 C.2.1 dX12_opensFrom_86 rfl (lv_at hl 1 rfl) ?_
      refine m_get C w (k := 117) (j := 51) (v := .ref (r (166))) flX12_229 (by decide) rfl rfl dX12_opensFrom_87 ?_
      refine lv_iload_n C.1 C.2.1 dX12_opensFrom_90 rfl (lv_at hl 2 rfl) ?_
      refine lv_dup2_11 C.1 C.2.1 dX12_opensFrom_91 rfl rfl ?_
      refine m_lald C w (k := 166) (i := p1) (n := 4) (wr := true) (by decide) rfl (by omega) (by decide) dX12_opensFrom_92 ?_
      refine lv_lconst (v := 1) C.1 C.2.1 dX12_opensFrom_93 (by decide) ?_
      refine lv_ladd C.1 C.2.1 dX12_opensFrom_94 ?_
      refine m_last C w (k := 166) (i := p1) (n := 4) (x := ((M_3.2 166 p1) + (1))) (by decide) rfl (by omega) (by decide) dX12_opensFrom_95 (fun H locs w => ?_)
      obtain ⟨M_6, eM_6⟩ : ∃ zz, zz = mm_wl M_3 166 p1 ((M_3.2 166 p1) + (1)) := ⟨_, rfl⟩
      rw [← eM_6] at w
      refine lv_aload_n C.1 C.2.1 dX12_opensFrom_96 rfl (lv_at hl 1 rfl) ?_
      refine lv_iload_n C.1 C.2.1 dX12_opensFrom_97 rfl (lv_at hl 2 rfl) ?_
      refine lv_aload_n C.1 C.2.1 dX12_opensFrom_98 rfl (lv_at hl 1 rfl) ?_
      refine m_get C w (k := 117) (j := 1) (v := .ref (r (119))) flX12_13 (by decide) rfl rfl dX12_opensFrom_99 ?_
      refine lv_iload_n C.1 C.2.1 dX12_opensFrom_102 rfl (lv_at hl 3 rfl) ?_
      refine lv_iload_n C.1 C.2.1 dX12_opensFrom_103 rfl (lv_at hl 4 rfl) ?_
      refine m_cvv C w hl cvX12_410 (k := 117) (by decide) rfl (q := (RX12, TX12, 58)) rfl rfl (As := [.int (nI (p1)), .ref (r (119)), .int (nI (p2)), .int (nI (p3))]) (rest := []) (c_X12_mixHash l D b0 r M_6 p1 119 p2 p3 (by omega) (by decide) rfl (by decide) (by omega) (by omega) (by omega)) rfl rfl (Nat.le_of_ble_eq_true rfl) ⟨Nat.le_of_ble_eq_true rfl, Nat.le_of_ble_eq_true rfl⟩ ⟨Nat.zero_le _, Nat.zero_le _⟩ dX12_opensFrom_104 (fun M_7 H locs eM_7 w => ?_)
      refine lv_iconst (v := 1) C.1 C.2.1 dX12_opensFrom_107 (by decide) ?_
      exact m_zret C w (by decide) (by subst ev_4 eM_3 eM_6 eM_7; exact Eq.symm (((if_pos h_2).trans ((if_pos h_5).trans rfl)))) dX12_opensFrom_108
    · refine lv_iconst (v := 0) C.1 C.2.1 dX12_opensFrom_84 (by decide) ?_
      exact m_zret C w (by decide) (by subst ev_4 eM_3; exact Eq.symm (((if_pos h_2).trans ((if_neg (fun q => q h_5)).trans rfl)))) dX12_opensFrom_85
  · refine lv_aload_n C.1 C.2.1 dX12_opensFrom_22 rfl (lv_at hl 1 rfl) ?_
    refine m_get C w (k := 117) (j := 1) (v := .ref (r (119))) flX12_13 (by decide) rfl rfl dX12_opensFrom_23 ?_
    refine lv_iload_n C.1 C.2.1 dX12_opensFrom_26 rfl (lv_at hl 3 rfl) ?_
    refine lv_aload_n C.1 C.2.1 dX12_opensFrom_27 rfl (lv_at hl 1 rfl) ?_
    refine m_get C w (k := 117) (j := 2) (v := .ref (r (120))) flX12_16 (by decide) rfl rfl dX12_opensFrom_28 ?_
    refine lv_iload C.1 C.2.1 dX12_opensFrom_31 (lv_at hl 5 rfl) ?_
    refine lv_iload_n C.1 C.2.1 dX12_opensFrom_33 rfl (lv_at hl 4 rfl) ?_
    refine m_csv C w hl csX12_265 (As := [.ref (r (119)), .int (nI (p2)), .ref (r (120)), .int (nI (p4)), .int (nI (p3))]) (rest := []) (c_X12_copy l D b0 r M 119 p2 120 p4 p3 (by decide) rfl (by decide) (by omega) (by decide) rfl (by decide) (by omega) (by omega) (by omega)) rfl rfl (Nat.le_of_ble_eq_true rfl) ⟨Nat.le_of_ble_eq_true rfl, Nat.le_of_ble_eq_true rfl⟩ ⟨Nat.zero_le _, Nat.zero_le _⟩ dX12_opensFrom_34 (fun M_8 H locs eM_8 w => ?_)
    refine lv_goto (tgt := 96) C.1 C.2.1 dX12_opensFrom_37 (by decide) ?_
    refine lv_aload_n C.1 C.2.1 dX12_opensFrom_96 rfl (lv_at hl 1 rfl) ?_
    refine lv_iload_n C.1 C.2.1 dX12_opensFrom_97 rfl (lv_at hl 2 rfl) ?_
    refine lv_aload_n C.1 C.2.1 dX12_opensFrom_98 rfl (lv_at hl 1 rfl) ?_
    refine m_get C w (k := 117) (j := 1) (v := .ref (r (119))) flX12_13 (by decide) rfl rfl dX12_opensFrom_99 ?_
    refine lv_iload_n C.1 C.2.1 dX12_opensFrom_102 rfl (lv_at hl 3 rfl) ?_
    refine lv_iload_n C.1 C.2.1 dX12_opensFrom_103 rfl (lv_at hl 4 rfl) ?_
    refine m_cvv C w hl cvX12_410 (k := 117) (by decide) rfl (q := (RX12, TX12, 58)) rfl rfl (As := [.int (nI (p1)), .ref (r (119)), .int (nI (p2)), .int (nI (p3))]) (rest := []) (c_X12_mixHash l D b0 r M_8 p1 119 p2 p3 (by omega) (by decide) rfl (by decide) (by omega) (by omega) (by omega)) rfl rfl (Nat.le_of_ble_eq_true rfl) ⟨Nat.le_of_ble_eq_true rfl, Nat.le_of_ble_eq_true rfl⟩ ⟨Nat.zero_le _, Nat.zero_le _⟩ dX12_opensFrom_104 (fun M_9 H locs eM_9 w => ?_)
    refine lv_iconst (v := 1) C.1 C.2.1 dX12_opensFrom_107 (by decide) ?_
    exact m_zret C w (by decide) (by subst eM_8 eM_9; exact Eq.symm (((if_neg (fun q => q h_2)).trans rfl))) dX12_opensFrom_108

def f_X12_isToWrite (p1 : Nat) (M : mm_M) : Int32 :=
  if (3 : Int32) ≤ (M.1 164 p1) then ((0 : Int32)) else (if ¬ ((M.1 164 p1) - (M.1 164 p1) / (2 : Int32) * (2 : Int32)) = (0 : Int32) then (if ¬ (0 : Int32) = (M.1 160 p1) then ((0 : Int32)) else ((1 : Int32))) else (if ¬ (1 : Int32) = (M.1 160 p1) then ((0 : Int32)) else ((1 : Int32))))
set_option maxHeartbeats 4000000 in
set_option maxRecDepth 100000 in
theorem c_X12_isToWrite (l : Launch) (D : va_G) (b0 : Nat) (r : Nat → Nat) (M : mm_M) (p1 : Nat) (hs : p1 < 4) : mm_Mi l yX12_isToWrite cX12_isToWrite 2 .boolean 0 0 D b0 r [.ref (r (117)), .int (nI (p1))] M (fun v M' => v = f_X12_isToWrite p1 M ∧ M' = M) := by
  refine mm_enter (cc := cX12_isToWrite) (nL := 2) (ret := (some .boolean)) (by decide) (Nat.le_of_ble_eq_true rfl) ?_
  intro p e s m args below meth c C w ls hl
  have hl : lv_has ls 2 [(0, .ref (r (117))), (1, .int (nI (p1)))] := hl
  refine lv_aload_n C.1 C.2.1 dX12_isToWrite_0 rfl (lv_at hl 0 rfl) ?_
  refine m_get C w (k := 117) (j := 49) (v := .ref (r (164))) flX12_223 (by decide) rfl rfl dX12_isToWrite_1 ?_
  refine lv_iload_n C.1 C.2.1 dX12_isToWrite_4 rfl (lv_at hl 1 rfl) ?_
  refine m_iald C w (k := 164) (i := p1) (n := 4) (wr := true) (by decide) rfl (by omega) (by decide) dX12_isToWrite_5 ?_
  refine lv_iconst (v := 3) C.1 C.2.1 dX12_isToWrite_6 (by decide) ?_
  refine lv_icmp_ge (tgt := 39) C.1 C.2.1 dX12_isToWrite_7 (by decide) (fun h_1 => ?_) (fun h_1 => ?_)
  · refine lv_iconst (v := 0) C.1 C.2.1 dX12_isToWrite_39 (by decide) ?_
    exact m_zret C w (by decide) ⟨by exact Eq.symm (((if_pos h_1).trans rfl)), rfl⟩ dX12_isToWrite_40
  · refine lv_aload_n C.1 C.2.1 dX12_isToWrite_10 rfl (lv_at hl 0 rfl) ?_
    refine m_get C w (k := 117) (j := 49) (v := .ref (r (164))) flX12_223 (by decide) rfl rfl dX12_isToWrite_11 ?_
    refine lv_iload_n C.1 C.2.1 dX12_isToWrite_14 rfl (lv_at hl 1 rfl) ?_
    refine m_iald C w (k := 164) (i := p1) (n := 4) (wr := true) (by decide) rfl (by omega) (by decide) dX12_isToWrite_15 ?_
    refine lv_iconst (v := 2) C.1 C.2.1 dX12_isToWrite_16 (by decide) ?_
    refine lv_irem C.1 C.2.1 dX12_isToWrite_17 (by decide) ?_
    refine lv_if_ne (tgt := 25) C.1 C.2.1 dX12_isToWrite_18 (by decide) (fun h_2 => ?_) (fun h_2 => ?_)
    · refine lv_iconst (v := 0) C.1 C.2.1 dX12_isToWrite_25 (by decide) ?_
      refine lv_aload_n C.1 C.2.1 dX12_isToWrite_26 rfl (lv_at hl 0 rfl) ?_
      refine m_get C w (k := 117) (j := 45) (v := .ref (r (160))) flX12_211 (by decide) rfl rfl dX12_isToWrite_27 ?_
      refine lv_iload_n C.1 C.2.1 dX12_isToWrite_30 rfl (lv_at hl 1 rfl) ?_
      refine m_zald C w (k := 160) (i := p1) (n := 4) (wr := true) (by decide) rfl (by omega) (by decide) dX12_isToWrite_31 ?_
      refine lv_icmp_ne (tgt := 39) C.1 C.2.1 dX12_isToWrite_32 (by decide) (fun h_3 => ?_) (fun h_3 => ?_)
      · refine lv_iconst (v := 0) C.1 C.2.1 dX12_isToWrite_39 (by decide) ?_
        exact m_zret C w (by decide) ⟨by exact Eq.symm (((if_neg h_1).trans ((if_pos h_2).trans ((if_pos h_3).trans rfl)))), rfl⟩ dX12_isToWrite_40
      · refine lv_iconst (v := 1) C.1 C.2.1 dX12_isToWrite_35 (by decide) ?_
        refine lv_goto (tgt := 40) C.1 C.2.1 dX12_isToWrite_36 (by decide) ?_
        exact m_zret C w (by decide) ⟨by exact Eq.symm (((if_neg h_1).trans ((if_pos h_2).trans ((if_neg (fun q => q h_3)).trans rfl)))), rfl⟩ dX12_isToWrite_40
    · refine lv_iconst (v := 1) C.1 C.2.1 dX12_isToWrite_21 (by decide) ?_
      refine lv_goto (tgt := 26) C.1 C.2.1 dX12_isToWrite_22 (by decide) ?_
      refine lv_aload_n C.1 C.2.1 dX12_isToWrite_26 rfl (lv_at hl 0 rfl) ?_
      refine m_get C w (k := 117) (j := 45) (v := .ref (r (160))) flX12_211 (by decide) rfl rfl dX12_isToWrite_27 ?_
      refine lv_iload_n C.1 C.2.1 dX12_isToWrite_30 rfl (lv_at hl 1 rfl) ?_
      refine m_zald C w (k := 160) (i := p1) (n := 4) (wr := true) (by decide) rfl (by omega) (by decide) dX12_isToWrite_31 ?_
      refine lv_icmp_ne (tgt := 39) C.1 C.2.1 dX12_isToWrite_32 (by decide) (fun h_4 => ?_) (fun h_4 => ?_)
      · refine lv_iconst (v := 0) C.1 C.2.1 dX12_isToWrite_39 (by decide) ?_
        exact m_zret C w (by decide) ⟨by exact Eq.symm (((if_neg h_1).trans ((if_neg (fun q => q h_2)).trans ((if_pos h_4).trans rfl)))), rfl⟩ dX12_isToWrite_40
      · refine lv_iconst (v := 1) C.1 C.2.1 dX12_isToWrite_35 (by decide) ?_
        refine lv_goto (tgt := 40) C.1 C.2.1 dX12_isToWrite_36 (by decide) ?_
        exact m_zret C w (by decide) ⟨by exact Eq.symm (((if_neg h_1).trans ((if_neg (fun q => q h_2)).trans ((if_neg (fun q => q h_4)).trans rfl)))), rfl⟩ dX12_isToWrite_40

def f_X12_goesOn_B1 (p1 : Nat) (M_1 : mm_M) : mm_M :=
  if ¬ (M_1.1 164 p1) = (3 : Int32) then (M_1) else (let M_3 := f_X12_split p1 M_1
  M_3)
theorem w_f_X12_goesOn_B1 (p1 : Nat) (M_1 : mm_M) : mm_fr [130, 117, 128, 129, 126, 127, 125, 131, 169, 172, 170, 171, 157] M_1 (f_X12_goesOn_B1 p1 M_1) := by
  unfold f_X12_goesOn_B1
  exact (mm_fr_ite (fun _ => (mm_fr_refl _ _)) (fun _ => ((w_f_X12_split _ _).on (by simp) (mm_fr_refl _ _))))
def f_X12_goesOn (p1 : Nat) (M : mm_M) : mm_M :=
  let M_1 := mm_w M 164 p1 ((M.1 164 p1) + (1 : Int32))
  f_X12_goesOn_B1 p1 M_1
theorem w_f_X12_goesOn (p1 : Nat) (M : mm_M) : mm_fr [164, 130, 117, 128, 129, 126, 127, 125, 131, 169, 172, 170, 171, 157] M (f_X12_goesOn p1 M) := by
  unfold f_X12_goesOn
  exact ((w_f_X12_goesOn_B1 _ _).on (by simp) (mm_fr_w (by simp) (mm_fr_refl _ _)))
set_option maxHeartbeats 4000000 in
set_option maxRecDepth 100000 in
theorem c_X12_goesOn (l : Launch) (D : va_G) (b0 : Nat) (r : Nat → Nat) (M : mm_M) (p1 : Nat) (hs : p1 < 4) : mm_Mv l yX12_goesOn cX12_goesOn 2 6 138 D b0 r [.ref (r (117)), .int (nI (p1))] M (fun M' => M' = f_X12_goesOn p1 M) := by
  refine mm_enter (cc := cX12_goesOn) (nL := 2) (ret := none) (by decide) (Nat.le_of_ble_eq_true rfl) ?_
  intro p e s m args below meth c C w ls hl
  have hl : lv_has ls 2 [(0, .ref (r (117))), (1, .int (nI (p1)))] := hl
  refine lv_aload_n C.1 C.2.1 dX12_goesOn_0 rfl (lv_at hl 0 rfl) ?_
  refine m_get C w (k := 117) (j := 49) (v := .ref (r (164))) flX12_223 (by decide) rfl rfl dX12_goesOn_1 ?_
  refine lv_iload_n C.1 C.2.1 dX12_goesOn_4 rfl (lv_at hl 1 rfl) ?_
  refine lv_dup2_11 C.1 C.2.1 dX12_goesOn_5 rfl rfl ?_
  refine m_iald C w (k := 164) (i := p1) (n := 4) (wr := true) (by decide) rfl (by omega) (by decide) dX12_goesOn_6 ?_
  refine lv_iconst (v := 1) C.1 C.2.1 dX12_goesOn_7 (by decide) ?_
  refine lv_iadd C.1 C.2.1 dX12_goesOn_8 ?_
  refine m_iast C w (k := 164) (i := p1) (n := 4) (x := ((M.1 164 p1) + (1 : Int32))) (by decide) rfl (by omega) (by decide) dX12_goesOn_9 (fun H locs w => ?_)
  obtain ⟨M_1, eM_1⟩ : ∃ zz, zz = mm_w M 164 p1 ((M.1 164 p1) + (1 : Int32)) := ⟨_, rfl⟩
  rw [← eM_1] at w
  refine lv_aload_n C.1 C.2.1 dX12_goesOn_10 rfl (lv_at hl 0 rfl) ?_
  refine m_get C w (k := 117) (j := 49) (v := .ref (r (164))) flX12_223 (by decide) rfl rfl dX12_goesOn_11 ?_
  refine lv_iload_n C.1 C.2.1 dX12_goesOn_14 rfl (lv_at hl 1 rfl) ?_
  refine m_iald C w (k := 164) (i := p1) (n := 4) (wr := true) (by decide) rfl (by omega) (by decide) dX12_goesOn_15 ?_
  refine lv_iconst (v := 3) C.1 C.2.1 dX12_goesOn_16 (by decide) ?_
  refine lv_icmp_ne (tgt := 25) C.1 C.2.1 dX12_goesOn_17 (by decide) (fun h_2 => ?_) (fun h_2 => ?_)
  · exact m_vret C w (by subst eM_1; exact Eq.symm (((if_pos h_2).trans rfl))) dX12_goesOn_25
  · refine lv_aload_n C.1 C.2.1 dX12_goesOn_20 rfl (lv_at hl 0 rfl) ?_
    refine lv_iload_n C.1 C.2.1 dX12_goesOn_21 rfl (lv_at hl 1 rfl) ?_
    refine m_cvv C w hl cvX12_438 (k := 117) (by decide) rfl (q := (RX12, TX12, 58)) rfl rfl (As := [.int (nI (p1))]) (rest := []) (c_X12_split l D b0 r M_1 p1 (by omega)) rfl rfl (Nat.le_of_ble_eq_true rfl) ⟨Nat.le_of_ble_eq_true rfl, Nat.le_of_ble_eq_true rfl⟩ ⟨Nat.zero_le _, Nat.zero_le _⟩ dX12_goesOn_22 (fun M_3 H locs eM_3 w => ?_)
    exact m_vret C w (by subst eM_1 eM_3; exact Eq.symm (((if_neg (fun q => q h_2)).trans rfl))) dX12_goesOn_25

def f_X12_counts (p1 : Nat) (v1 : Int32) (M : mm_M) : mm_M :=
  if (v1) = (0 : Int32) then (let M_2 := mm_wl M 168 p1 ((M.2 168 p1) + (1))
  M_2) else (let M_3 := mm_wl M 167 p1 ((M.2 167 p1) + (1))
  M_3)
theorem w_f_X12_counts (p1 : Nat) (v1 : Int32) (M : mm_M) : mm_fr [168, 167] M (f_X12_counts p1 v1 M) := by
  unfold f_X12_counts
  exact (mm_fr_ite (fun _ => (mm_fr_wl (by simp) (mm_fr_refl _ _))) (fun _ => (mm_fr_wl (by simp) (mm_fr_refl _ _))))
set_option maxHeartbeats 4000000 in
set_option maxRecDepth 100000 in
theorem c_X12_counts (l : Launch) (D : va_G) (b0 : Nat) (r : Nat → Nat) (M : mm_M) (p1 : Nat) (v1 : Int32) (hs : p1 < 4) : mm_Mv l yX12_counts cX12_counts 3 0 0 D b0 r [.ref (r (117)), .int (nI (p1)), .int (v1)] M (fun M' => M' = f_X12_counts p1 v1 M) := by
  refine mm_enter (cc := cX12_counts) (nL := 3) (ret := none) (by decide) (Nat.le_of_ble_eq_true rfl) ?_
  intro p e s m args below meth c C w ls hl
  have hl : lv_has ls 3 [(0, .ref (r (117))), (1, .int (nI (p1))), (2, .int (v1))] := hl
  refine lv_iload_n C.1 C.2.1 dX12_counts_0 rfl (lv_at hl 2 rfl) ?_
  refine lv_if_eq (tgt := 17) C.1 C.2.1 dX12_counts_1 (by decide) (fun h_1 => ?_) (fun h_1 => ?_)
  · refine lv_aload_n C.1 C.2.1 dX12_counts_17 rfl (lv_at hl 0 rfl) ?_
    refine m_get C w (k := 117) (j := 53) (v := .ref (r (168))) flX12_235 (by decide) rfl rfl dX12_counts_18 ?_
    refine lv_iload_n C.1 C.2.1 dX12_counts_21 rfl (lv_at hl 1 rfl) ?_
    refine lv_dup2_11 C.1 C.2.1 dX12_counts_22 rfl rfl ?_
    refine m_lald C w (k := 168) (i := p1) (n := 4) (wr := true) (by decide) rfl (by omega) (by decide) dX12_counts_23 ?_
    refine lv_lconst (v := 1) C.1 C.2.1 dX12_counts_24 (by decide) ?_
    refine lv_ladd C.1 C.2.1 dX12_counts_25 ?_
    refine m_last C w (k := 168) (i := p1) (n := 4) (x := ((M.2 168 p1) + (1))) (by decide) rfl (by omega) (by decide) dX12_counts_26 (fun H locs w => ?_)
    obtain ⟨M_2, eM_2⟩ : ∃ zz, zz = mm_wl M 168 p1 ((M.2 168 p1) + (1)) := ⟨_, rfl⟩
    rw [← eM_2] at w
    exact m_vret C w (by subst eM_2; exact Eq.symm (((if_pos h_1).trans rfl))) dX12_counts_27
  · refine lv_aload_n C.1 C.2.1 dX12_counts_4 rfl (lv_at hl 0 rfl) ?_
    refine m_get C w (k := 117) (j := 52) (v := .ref (r (167))) flX12_232 (by decide) rfl rfl dX12_counts_5 ?_
    refine lv_iload_n C.1 C.2.1 dX12_counts_8 rfl (lv_at hl 1 rfl) ?_
    refine lv_dup2_11 C.1 C.2.1 dX12_counts_9 rfl rfl ?_
    refine m_lald C w (k := 167) (i := p1) (n := 4) (wr := true) (by decide) rfl (by omega) (by decide) dX12_counts_10 ?_
    refine lv_lconst (v := 1) C.1 C.2.1 dX12_counts_11 (by decide) ?_
    refine lv_ladd C.1 C.2.1 dX12_counts_12 ?_
    refine m_last C w (k := 167) (i := p1) (n := 4) (x := ((M.2 167 p1) + (1))) (by decide) rfl (by omega) (by decide) dX12_counts_13 (fun H locs w => ?_)
    obtain ⟨M_3, eM_3⟩ : ∃ zz, zz = mm_wl M 167 p1 ((M.2 167 p1) + (1)) := ⟨_, rfl⟩
    rw [← eM_3] at w
    refine lv_goto (tgt := 27) C.1 C.2.1 dX12_counts_14 (by decide) ?_
    exact m_vret C w (by subst eM_3; exact Eq.symm (((if_neg h_1).trans rfl))) dX12_counts_27

/-! the protocol's name as a String constant: charAt -/
def mm_ch (k : Nat) : Int32 := mm_txt.getD k 0
theorem mm_ch_ok : ∀ k, k < 32 → ((mm_txt.getD k 0 &&& 255).toUInt32 % 65536).toInt32 = mm_ch k ∧ narrow .char (.int (mm_ch k)) = .int (mm_ch k) := by decide
set_option maxHeartbeats 4000000 in
set_option maxRecDepth 100000 in
theorem c_J3_checkIndex (l : Launch) (D : va_G) (b0 : Nat) (r : Nat → Nat) (M : mm_M) (i n : Nat) (fv : Value) (hfv : fv = .null ∨ ∃ t, fv = .ref t) (hi : i < n) (hn : n < 2 ^ 31) : mm_Mi l yJ3_checkIndex_8e157 cJ3_checkIndex_8e157 3 .int 0 0 D b0 r [.int (nI i), .int (nI n), fv] M (fun v M' => v = nI i ∧ M' = M) := by
  refine mm_enter (cc := cJ3_checkIndex_8e157) (nL := 3) (ret := (some .int)) (by decide) (by rcases hfv with rfl | ⟨t, rfl⟩ <;> exact Nat.le_of_ble_eq_true rfl) ?_
  intro p e s m args below meth c C w ls hl
  have hl : lv_has ls 3 [(0, .int (nI i)), (1, .int (nI n))] := by rcases hfv with rfl | ⟨t, rfl⟩ <;> exact lv_sub hl [0, 1] rfl
  refine lv_iload_n C.1 C.2.1 dJ3_checkIndex_8e157_0 rfl (lv_at hl 0 rfl) ?_
  refine lv_if_lt (tgt := 9) C.1 C.2.1 dJ3_checkIndex_8e157_1 (by decide) (fun h => absurd h (nI_pos (by omega))) (fun _ => ?_)
  refine lv_iload_n C.1 C.2.1 dJ3_checkIndex_8e157_4 rfl (lv_at hl 0 rfl) ?_
  refine lv_iload_n C.1 C.2.1 dJ3_checkIndex_8e157_5 rfl (lv_at hl 1 rfl) ?_
  refine m_icmp_lt (tgt := 16) (a := i) (b := n) C (by omega) (by omega) dJ3_checkIndex_8e157_6 (by decide) (fun _ => ?_) (fun h => absurd h (by omega))
  refine lv_iload_n C.1 C.2.1 dJ3_checkIndex_8e157_16 rfl (lv_at hl 0 rfl) ?_
  exact m_iret C w ⟨rfl, rfl⟩ dJ3_checkIndex_8e157_17
set_option maxHeartbeats 4000000 in
set_option maxRecDepth 100000 in
theorem c_J0_checkIndex (l : Launch) (D : va_G) (b0 : Nat) (r : Nat → Nat) (M : mm_M) (i n : Nat) (hi : i < n) (hn : n < 2 ^ 31) : mm_Mv l yJ0_checkIndex_df160 cJ0_checkIndex_df160 2 1 22 D b0 r [.int (nI i), .int (nI n)] M (fun M' => M' = M) := by
  refine mm_enter (cc := cJ0_checkIndex_df160) (nL := 2) (ret := none) (by decide) (Nat.le_of_ble_eq_true rfl) ?_
  intro p e s m args below meth c C w ls hl
  have hl : lv_has ls 2 [(0, .int (nI i)), (1, .int (nI n))] := hl
  refine lv_iload_n C.1 C.2.1 dJ0_checkIndex_df160_0 rfl (lv_at hl 0 rfl) ?_
  refine lv_iload_n C.1 C.2.1 dJ0_checkIndex_df160_1 rfl (lv_at hl 1 rfl) ?_
  obtain ⟨fv, hfv, hZ⟩ : ∃ fv : Value, (fv = .null ∨ ∃ t, fv = .ref t) ∧ va_Z "jdk/internal/util/Preconditions" "SIOOBE_FORMATTER" "Ljava/util/function/BiFunction;" fv (fun q => b0 ≤ q) s s.heap := by
    rcases C.2.2.2.2.2.2.2.1.2.2.2.2.2.2.2.2.2.1 with h | ⟨t, h⟩
    · exact ⟨_, Or.inl rfl, h⟩
    · exact ⟨_, Or.inr ⟨t, rfl⟩, h⟩
  refine m_gets C w hZ fsJ0_1053 dJ0_checkIndex_df160_2 ?_
  refine m_csi C w hl csJ0_1059 (As := [.int (nI i), .int (nI n), fv]) (rest := []) (c_J3_checkIndex l D b0 r M i n fv hfv hi hn) rfl rfl (Nat.le_of_ble_eq_true rfl) ⟨Nat.le_of_ble_eq_true rfl, Nat.le_of_ble_eq_true rfl⟩ ⟨Nat.zero_le _, Nat.zero_le _⟩ dJ0_checkIndex_df160_5 (fun v M9 H locs e9 w => ?_)
  obtain ⟨ev, e9⟩ := e9
  rw [e9] at w
  refine lv_pop C.1 C.2.1 dJ0_checkIndex_df160_8 rfl ?_
  exact m_vret C w rfl dJ0_checkIndex_df160_9
set_option maxHeartbeats 4000000 in
set_option maxRecDepth 100000 in
theorem c_J1_charAt (l : Launch) (D : va_G) (b0 : Nat) (r : Nat → Nat) (M : mm_M) (i : Nat) (hi : i < 32) : mm_Mi l yJ1_charAt_3b067 cJ1_charAt_3b067 2 .char 2 43 D b0 r [.ref (r 181), .int (nI i)] M (fun v M' => v = mm_ch i ∧ M' = M) := by
  refine mm_enter (cc := cJ1_charAt_3b067) (nL := 2) (ret := (some .char)) (by decide) (Nat.le_of_ble_eq_true rfl) ?_
  intro p e s m args below meth c C w ls hl
  have hl : lv_has ls 2 [(0, .ref (r 181)), (1, .int (nI i))] := hl
  have hT := (C.2.2.2.2.2.2.2.1.2.2.2.2.2.2.2.2.2.2.1 0 (by decide)).2.2.2
  refine lv_iload_n C.1 C.2.1 dJ1_charAt_3b067_0 rfl (lv_at hl 1 rfl) ?_
  refine lv_aload_n C.1 C.2.1 dJ1_charAt_3b067_1 rfl (lv_at hl 0 rfl) ?_
  refine va_tlen (N := 32) (v := nI 32) C.1 C.2.1 hT w.2 rfl dJ1_charAt_3b067_2 ?_
  refine m_csv C w hl csJ1_9 (As := [.int (nI i), .int (nI 32)]) (rest := []) (c_J0_checkIndex l D b0 r M i 32 hi (by decide)) rfl rfl (Nat.le_of_ble_eq_true rfl) ⟨Nat.le_of_ble_eq_true rfl, Nat.le_of_ble_eq_true rfl⟩ ⟨Nat.zero_le _, Nat.zero_le _⟩ dJ1_charAt_3b067_3 (fun M9 H locs e9 w => ?_)
  rw [e9] at w
  refine lv_aload_n C.1 C.2.1 dJ1_charAt_3b067_6 rfl (lv_at hl 0 rfl) ?_
  refine lv_iload_n C.1 C.2.1 dJ1_charAt_3b067_7 rfl (lv_at hl 1 rfl) ?_
  refine va_tb (N := 32) (v := .int (mm_txt.getD i 0)) C.1 C.2.1 hT w.2 (vp_in_nI hi (by decide)) (by rw [nI_clamp (by omega)]; rfl) dJ1_charAt_3b067_8 ?_
  refine lv_sipush (v := 255) C.1 C.2.1 dJ1_charAt_3b067_9 (by decide) ?_
  refine lv_iand C.1 C.2.1 dJ1_charAt_3b067_12 ?_
  refine lv_i2c (v := mm_ch i) C.1 C.2.1 dJ1_charAt_3b067_13 ?_ ?_
  · exact (mm_ch_ok i hi).1
  have C0 := C
  obtain ⟨hx, hb, hml, hown, hts, hK, hR, hZ, hlk, hret, hN⟩ := C0
  exact W.zret hx hb hret (mm_ch_ok i hi).2 (fun t ht hW => ⟨⟨mm_ch i, M, rfl, ⟨rfl, rfl⟩, (m_ends w C ht hW).1⟩, (m_ends w C ht hW).2⟩) w.2.2.2 dJ1_charAt_3b067_14
set_option maxHeartbeats 4000000 in
set_option maxRecDepth 100000 in
theorem c_J0_isLatin1 (l : Launch) (D : va_G) (b0 : Nat) (r : Nat → Nat) (M : mm_M) : mm_Mi l yJ0_isLatin1_aae02 cJ0_isLatin1_aae02 1 .boolean 0 0 D b0 r [.ref (r 182)] M (fun v M' => v = 1 ∧ M' = M) := by
  refine mm_enter (cc := cJ0_isLatin1_aae02) (nL := 1) (ret := (some .boolean)) (by decide) (Nat.le_of_ble_eq_true rfl) ?_
  intro p e s m args below meth c C w ls hl
  have hl : lv_has ls 1 [(0, .ref (r 182))] := hl
  have hS := C.2.2.2.2.2.2.2.1.2.2.2.2.2.2.2.2.2.2.1 0 (by decide)
  refine m_gets C w C.2.2.2.2.2.2.2.1.2.2.2.2.2.2.2.2.1 fsJ0_38 dJ0_isLatin1_aae02_0 ?_
  refine lv_if_eq (tgt := 17) C.1 C.2.1 dJ0_isLatin1_aae02_3 (by decide) (fun h => absurd h (by decide)) (fun _ => ?_)
  refine lv_aload_n C.1 C.2.1 dJ0_isLatin1_aae02_6 rfl (lv_at hl 0 rfl) ?_
  refine vk_getf C.1 C.2.1 hS.2.1 w.2 C.2.2.2.1 (C.2.2.2.2.1 _ fsJ0_15) (fun _ h => h) dJ0_isLatin1_aae02_7 ?_
  refine lv_if_ne (tgt := 17) C.1 C.2.1 dJ0_isLatin1_aae02_10 (by decide) (fun h => absurd rfl h) (fun _ => ?_)
  refine lv_iconst (v := 1) C.1 C.2.1 dJ0_isLatin1_aae02_13 (by decide) ?_
  refine lv_goto (tgt := 18) C.1 C.2.1 dJ0_isLatin1_aae02_14 (by decide) ?_
  exact m_zret C w (by decide) ⟨rfl, rfl⟩ dJ0_isLatin1_aae02_18
set_option maxHeartbeats 4000000 in
set_option maxRecDepth 100000 in
theorem c_J0_charAt (l : Launch) (D : va_G) (b0 : Nat) (r : Nat → Nat) (M : mm_M) (i : Nat) (hi : i < 32) : mm_Mi l yJ0_charAt_5068e cJ0_charAt_5068e 2 .char 3 64 D b0 r [.ref (r 182), .int (nI i)] M (fun v M' => v = mm_ch i ∧ M' = M) := by
  refine mm_enter (cc := cJ0_charAt_5068e) (nL := 2) (ret := (some .char)) (by decide) (Nat.le_of_ble_eq_true rfl) ?_
  intro p e s m args below meth c C w ls hl
  have hl : lv_has ls 2 [(0, .ref (r 182)), (1, .int (nI i))] := hl
  have hSS := C.2.2.2.2.2.2.2.1.2.2.2.2.2.2.2.2.2.2
  have hS := hSS.1 0 (by decide)
  refine lv_aload_n C.1 C.2.1 dJ0_charAt_5068e_0 rfl (lv_at hl 0 rfl) ?_
  refine va_calli (va_runV (As := []) (rest := []) (b := r 182) ⟨C.1, C.2.1, C.2.2.1, C.2.2.2.1, C.2.2.2.2.1⟩ (c_J0_isLatin1 l D b0 r M) (m_cw C cvJ0_492 ⟨Nat.le_of_ble_eq_true rfl, Nat.le_of_ble_eq_true rfl⟩) ⟨mm_blind, vk_recv (i := 0) hSS (by decide) w.2, fun U hU hW => ⟨rfl, (m_ends w C hU hW).1⟩⟩ rfl rfl hl.1 rfl (lv_room (Nat.le_of_ble_eq_true rfl)) dJ0_charAt_5068e_1 ⟨Nat.zero_le _, Nat.zero_le _⟩) w.2 (fun _ _ h => h) (fun _ h => h) (fun v u t H1 locs1 ht hvm hp hB _ _ hS2 => ?_)
  have w := m_back ht hvm hB hS2
  obtain ⟨rfl, e9⟩ := hp
  rw [e9] at w
  refine lv_if_eq (tgt := 16) C.1 C.2.1 dJ0_charAt_5068e_4 (by decide) (fun h => absurd h (by decide)) (fun _ => ?_)
  refine lv_aload_n C.1 C.2.1 dJ0_charAt_5068e_7 rfl (lv_at hl 0 rfl) ?_
  refine vk_getf C.1 C.2.1 hS.2.2.1 w.2 C.2.2.2.1 (C.2.2.2.2.1 _ fsJ0_9) (fun _ h => h) dJ0_charAt_5068e_8 ?_
  refine lv_iload_n C.1 C.2.1 dJ0_charAt_5068e_11 rfl (lv_at hl 1 rfl) ?_
  refine m_csi C w hl csJ0_495 (As := [.ref (r 181), .int (nI i)]) (rest := []) (c_J1_charAt l D b0 r M i hi) rfl rfl (Nat.le_of_ble_eq_true rfl) ⟨Nat.le_of_ble_eq_true rfl, Nat.le_of_ble_eq_true rfl⟩ ⟨Nat.zero_le _, Nat.zero_le _⟩ dJ0_charAt_5068e_12 (fun v M9 H locs e9 w => ?_)
  obtain ⟨rfl, e9⟩ := e9
  rw [e9] at w
  have C0 := C
  obtain ⟨hx, hb, hml, hown, hts, hK, hR, hZ, hlk, hret, hN⟩ := C0
  exact W.zret hx hb hret (mm_ch_ok i hi).2 (fun t ht hW => ⟨⟨mm_ch i, M, rfl, ⟨rfl, rfl⟩, (m_ends w C ht hW).1⟩, (m_ends w C ht hW).2⟩) w.2.2.2 dJ0_charAt_5068e_15
/-- the call at a site: the constant on the stack, the place above it -/
theorem m_charAt {p : Program} {l : Launch} {e : Env} {R : Room} {s : State} {m : MethodId} {args : Array Value} {below : List Frame} {meth : Method} {c : Code} {H : Heap} {locs : List Loc} {cells slots : Nat} {Q : State → Prop} {cc : ByteArray} {nL pc : Nat} {own : String} {ret : Option FieldType} {ls : Array Slot} {rest : List Value} {D : va_G} {b0 : Nat} {r : Nat → Nat} {M : mm_M} {lv : List (Nat × Value)} {index i : Nat}
    (C : mm_C p c cc nL own m meth ret s args D b0 r) (w : mm_W D b0 r M s H locs) (hl : lv_has ls nL lv) (hy : mm_cv own index yJ0_charAt_5068e cJ0_charAt_5068e 2 (some .char) 1) (hi : i < 32) (hW : (rest.map fun v => v.category).sum ≤ 8) (hR : 4 ≤ R.frames ∧ 85 ≤ R.locals) (hf : cells ≤ R.cells ∧ slots ≤ R.slots) (hdg : decode cc pc = .ok (.invokevirtual index, 3))
    (kk : ∀ (H1 : Heap) (locs1 : List Loc), mm_W D b0 r M s H1 locs1 → W p l e R s m args below meth c H1 locs1 cells slots Q (F0 m (pc + 3) ls (.int (mm_ch i) :: rest))) : W p l e R s m args below meth c H locs cells slots Q (F0 m pc ls (.int (nI i) :: .ref (r 182) :: rest)) := by
  refine va_calli (va_runV (As := [.int (nI i)]) (rest := rest) (b := r 182) ⟨C.1, C.2.1, C.2.2.1, C.2.2.2.1, C.2.2.2.2.1⟩ (c_J0_charAt l D b0 r M i hi) (m_cw C hy hR) ⟨mm_blind, vk_recv (i := 0) C.2.2.2.2.2.2.2.1.2.2.2.2.2.2.2.2.2.2 (by decide) w.2, fun U hU hW => ⟨rfl, (m_ends w C hU hW).1⟩⟩ rfl rfl hl.1 rfl (lv_room hW) hdg hf) w.2 (fun _ _ h => h) (fun _ h => h) (fun v u t H1 locs1 ht hvm hp hB _ _ hS => ?_)
  have w := m_back ht hvm hB hS
  obtain ⟨rfl, e9⟩ := hp
  rw [e9] at w
  exact kk H1 locs1 w

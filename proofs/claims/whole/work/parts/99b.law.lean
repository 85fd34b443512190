/-! The law: its loop, one theorem a case. -/
section LW
variable {p : Program} {l : Launch} {e : Env} {s : State} {m : MethodId} {below : List Frame} {meth : Method} {c : Code} {H : Heap} {locs : List Loc} {cells slots : Nat} {Q : State → Prop}
variable {D : va_G} {r : Nat → Nat} {b L i pc ts rs : Nat} {xs : Nat → Int32} {ls : Array Slot} {M : mm_M} {rest : List Value}
def l_C (p : Program) (c : Code) (m : MethodId) (meth : Method) (s : State) (D : va_G) (r : Nat → Nat) (b L : Nat) (xs : Nat → Int32) : Prop :=
  mm_C p c cL_law 4 RL m meth ret s #[Value.ref b] D s.heap.size r ∧ va_X b L xs s s.heap ∧ b < s.heap.size ∧ L ≤ 3072
def l_L (ls : Array Slot) (r : Nat → Nat) (b i : Nat) : Prop := lv_has ls 4 [(3, .int (nI i)), (2, .ref (r 117)), (1, .ref (r 0)), (0, .ref b)]
theorem l_ld (C : l_C p c m meth s D r b L xs) (w : mm_W D s.heap.size r M s H locs) (hl : l_L ls r b i) {k : Nat} {n : Int} (hk : i + k < L) (hn : Int32.ofInt n = nI k) (d1 : decode cL_law pc = .ok (.aload_n 0, 1)) (d2 : decode cL_law (pc + 1) = .ok (.iload_n 3, 1)) (d3 : decode cL_law (pc + 1 + 1) = .ok (.iconst n, 1)) (d4 : decode cL_law (pc + 1 + 1 + 1) = .ok (.iadd, 1)) (d5 : decode cL_law (pc + 1 + 1 + 1 + 1) = .ok (.iaload, 1))
    (kk : W p l e room_1 s m #[Value.ref b] below meth c H locs cells slots Q (F0 m (pc + 1 + 1 + 1 + 1 + 1) ls (.int (xs (i + k)) :: rest))) : W p l e room_1 s m #[Value.ref b] below meth c H locs cells slots Q (F0 m pc ls rest) := by
  refine lv_aload_n C.1.1 C.1.2.1 d1 rfl (lv_at hl 3 rfl) ?_
  refine lv_iload_n C.1.1 C.1.2.1 d2 rfl (lv_at hl 0 rfl) ?_
  refine lv_iconst (v := nI k) C.1.1 C.1.2.1 d3 hn ?_
  refine lv_iadd C.1.1 C.1.2.1 d4 ?_
  rw [nI_add]
  refine va_sld C.1.1 C.1.2.1 C.2.1 C.2.2.1 (Nat.not_le.mpr C.2.2.1) w.2 (vp_in_nI hk (by have := C.2.2.2; omega)) d5 ?_
  rw [nI_clamp (by have := C.2.2.2; omega)]
  exact kk
theorem l_nz (C : l_C p c m meth s D r b L xs) {x : Int32} (d1 : decode cL_law pc = .ok (.ifCond .eq 7, 3)) (d2 : decode cL_law (pc + 3) = .ok (.iconst 1, 1)) (d3 : decode cL_law (pc + 3 + 1) = .ok (.goto 4, 3)) (d4 : decode cL_law (pc + 7) = .ok (.iconst 0, 1))
    (kk : W p l e room_1 s m #[Value.ref b] below meth c H locs cells slots Q (F0 m (pc + 8) ls (.int (if x = 0 then 0 else 1) :: rest))) : W p l e room_1 s m #[Value.ref b] below meth c H locs cells slots Q (F0 m pc ls (.int x :: rest)) := by
  refine lv_if_eq (tgt := pc + 7) C.1.1 C.1.2.1 d1 (by simp) (fun h => ?_) (fun h => ?_)
  · rw [if_pos h] at kk
    exact lv_iconst (v := 0) C.1.1 C.1.2.1 d4 (by decide) kk
  · rw [if_neg h] at kk
    refine lv_iconst (v := 1) C.1.1 C.1.2.1 d2 (by decide) ?_
    exact lv_goto (tgt := pc + 8) C.1.1 C.1.2.1 d3 (by simp <;> omega) kk
theorem l_bit {x : Int32} : (if x = 0 then (0 : Int32) else 1) = 0 ∨ (if x = 0 then (0 : Int32) else 1) = 1 := by
  by_cases h : x = 0
  · exact Or.inl (if_pos h)
  · exact Or.inr (if_neg h)
def l_K (p : Program) (l : Launch) (e : Env) (s : State) (m : MethodId) (below : List Frame) (meth : Method) (c : Code) (cells slots : Nat) (Q : State → Prop) (D : va_G) (r : Nat → Nat) (b : Nat) (ls : Array Slot) : Prop :=
  ∀ (M : mm_M) (ts rs : Nat) (H : Heap) (locs : List Loc), pubR M ts rs → mm_W D s.heap.size r M s H locs → W p l e room_1 s m #[Value.ref b] below meth c H locs cells slots Q (F0 m 936 ls [])
theorem l_end (C : l_C p c m meth s D r b L xs) {v1 v2 : Int32} {M1 M2 : mm_M} {B : Int32 × mm_M} {off : Int} (q : simR (v1, M1) B) (h2 : (v2, M2) = B) (w : mm_W D s.heap.size r M2 s H locs) (kk : l_K p l e s m below meth c cells slots Q D r b ls) (hd : decode cL_law pc = .ok (.if_icmp .eq off, 3)) (ht : (pc : Int) + off = ((936 : Nat) : Int)) : W p l e room_1 s m #[Value.ref b] below meth c H locs cells slots Q (F0 m pc ls [.int v2, .int v1]) := by
  subst h2
  obtain ⟨q1, ts', rs', q2⟩ := q
  exact lv_icmp_eq (tgt := 936) C.1.1 C.1.2.1 hd ht (fun _ => kk M2 ts' rs' H locs q2 w) (fun h => absurd q1 h)
theorem l_same (C : l_C p c m meth s D r b L xs) {v1 v2 : Int32} {off : Int} (q : v1 = v2) (h : pubR M ts rs) (w : mm_W D s.heap.size r M s H locs) (kk : l_K p l e s m below meth c cells slots Q D r b ls) (hd : decode cL_law pc = .ok (.if_icmp .eq off, 3)) (ht : (pc : Int) + off = ((936 : Nat) : Int)) : W p l e room_1 s m #[Value.ref b] below meth c H locs cells slots Q (F0 m pc ls [.int v2, .int v1]) :=
  lv_icmp_eq (tgt := 936) C.1.1 C.1.2.1 hd ht (fun _ => kk M ts rs H locs h w) (fun h => absurd q h)
theorem pub_I (h : pubR M ts rs) : ∀ s, s < 4 → M.1 (49 + 17 * s) 10 = -1 ∨ M.1 (49 + 17 * s) 10 = 0 ∨ M.1 (49 + 17 * s) 10 = 1 ∨ M.1 (49 + 17 * s) 10 = 2 ∨ M.1 (49 + 17 * s) 10 = 3 := fun s hs => by
  rcases h.2.2.2.2.2.2.2 s hs with ⟨h1, _⟩ | ⟨st, ini, rf, S, os, oe, xs, xe, ks, kr, ns, nr, h1, h2, h3, h4, h5, h6⟩
  · exact Or.inl h1
  · have e := h5.2.1
    rcases (show st = 0 ∨ st = 1 ∨ st = 2 ∨ st = 3 by omega) with rfl | rfl | rfl | rfl
    · exact Or.inr (Or.inl e)
    · exact Or.inr (Or.inr (Or.inl e))
    · exact Or.inr (Or.inr (Or.inr (Or.inl e)))
    · exact Or.inr (Or.inr (Or.inr (Or.inr e)))
theorem pub_K (h : pubR M ts rs) : ∀ s, s < 4 → M.1 (49 + 17 * s) 10 = 2 → ¬ M.1 (49 + 17 * s + 5 + 3) 3 = 0 := fun s hs h2 => by
  rcases h.2.2.2.2.2.2.2 s hs with ⟨h1, _⟩ | ⟨st, ini, rf, S, os, oe, xs, xe, ks, kr, ns, nr, g1, g2, g3, g4, g5, g6⟩
  · rw [h1] at h2; exact absurd h2 (by decide)
  · have e := g5.2.1
    have hst : st = 2 := by
      rcases (show st = 0 ∨ st = 1 ∨ st = 2 ∨ st = 3 by omega) with rfl | rfl | rfl | rfl
      · rw [h2] at e; exact absurd e (by decide)
      · rw [h2] at e; exact absurd e (by decide)
      · rfl
      · rw [h2] at e; exact absurd e (by decide)
    have z := g4 hst
    have y := g5.2.2.2.1
    intro q
    exact z (y.2.2.2.1.symm.trans q)
theorem b_key (h : pubR M ts rs) (v1 : Int32) : (f_X11_key v1 ts M).2.1 117 = M.1 117 := by
  by_cases c : f_X11_isKey v1 = 0
  · unfold f_X11_key
    rw [if_neg (fun q => q.1 c), if_pos c]
  · exact ((w_f_X11_key v1 ts M).m 117 (by have := (g_isKey c).2; simp <;> omega)).1
theorem b_take (h : pubR M ts rs) (v1 : Int32) : (f_X11_take v1 rs M).2.1 117 = M.1 117 := by
  by_cases c : f_X11_isKey v1 = 0
  · unfold f_X11_take
    rw [if_neg (fun q => q.1 c), if_pos c]
  · exact ((w_f_X11_take v1 rs M).m 117 (by have := (g_isKey c).2; simp <;> omega)).1
theorem b_start (h : pubR M ts rs) (v1 v2 v3 v4 v5 : Int32) : (f_X11_start v1 v2 v3 v4 v5 ts M).2.1 117 = M.1 117 := by
  by_cases c : f_X11_isSession v1 = 0
  · unfold f_X11_start
    rw [if_neg (fun q => q.1 c), if_pos c]
  · exact ((w_f_X11_start v1 v2 v3 v4 v5 ts M).m 117 (by have := (g_isSession c).2; simp <;> omega)).1
theorem b_write (h : pubR M ts rs) (v1 v2 : Int32) : (f_X11_write v1 v2 ts M).2.1 117 = M.1 117 := by
  by_cases c : f_X11_hasBegun v1 M = 0
  · unfold f_X11_write
    rw [if_neg (fun q => q.1 c), if_pos c]
  · exact ((w_f_X11_write v1 v2 ts M).m 117 (by have := (beg_get h c).1; simp <;> omega)).1
theorem b_read (h : pubR M ts rs) (v1 v2 : Int32) : (f_X11_read v1 v2 ts M).2.1 117 = M.1 117 := by
  by_cases c : f_X11_hasBegun v1 M = 0
  · unfold f_X11_read
    rw [if_neg (fun q => q.1 c), if_pos c]
  · exact ((w_f_X11_read v1 v2 ts M).m 117 (by have := (beg_get h c).1; simp <;> omega)).1
theorem b_send (h : pubR M ts rs) (v1 v2 : Int32) : (f_X11_send v1 v2 ts M).2.1 117 = M.1 117 := by
  by_cases c : f_X11_hasBegun v1 M = 0
  · unfold f_X11_send
    rw [if_neg (fun q => q.1 c), if_pos c]
  · exact ((w_f_X11_send v1 v2 ts M).m 117 (by have := (beg_get h c).1; simp <;> omega)).1
theorem b_receive (h : pubR M ts rs) (v1 v2 : Int32) : (f_X11_receive v1 v2 ts M).2.1 117 = M.1 117 := by
  by_cases c : f_X11_hasBegun v1 M = 0
  · unfold f_X11_receive
    rw [if_neg (fun q => q.1 c), if_pos c]
  · exact ((w_f_X11_receive v1 v2 ts M).m 117 (by have := (beg_get h c).1; simp <;> omega)).1
theorem b_feed (_ : pubR M ts rs) (v1 v2 v3 v4 v5 : Int32) : (f_X11_feed v1 v2 v3 v4 v5 ts M).2.1 117 = M.1 117 := ((w_f_X11_feed v1 v2 v3 v4 v5 ts M).m 117 (by simp)).1
theorem b_turn (_ : pubR M ts rs) : (f_X11_turn rs M).2.1 117 = M.1 117 := ((w_f_X11_turn rs M).m 117 (by simp)).1
theorem b_patch (_ : pubR M ts rs) (v1 v2 : Int32) : (f_X11_patch v1 v2 ts M).2.1 117 = M.1 117 := ((w_f_X11_patch v1 v2 ts M).m 117 (by simp)).1
theorem b_curve (_ : pubR M ts rs) (v1 v2 : Int32) : (f_X11_curve v1 v2 ts M).2.1 117 = M.1 117 := ((w_f_X11_curve v1 v2 ts M).m 117 (by simp)).1
theorem b_hash (_ : pubR M ts rs) (v1 : Int32) : (f_X11_hash v1 ts M).2.1 117 = M.1 117 := ((w_f_X11_hash v1 ts M).m 117 (by simp)).1
theorem b_mac (_ : pubR M ts rs) (v1 v2 : Int32) : (f_X11_mac v1 v2 ts M).2.1 117 = M.1 117 := ((w_f_X11_mac v1 v2 ts M).m 117 (by simp)).1
theorem b_seal (_ : pubR M ts rs) (v1 v2 v3 : Int32) (u : Int64) : (f_X11_seal v1 u v2 v3 ts M).2.1 117 = M.1 117 := ((w_f_X11_seal v1 u v2 v3 ts M).m 117 (by simp)).1
theorem b_open (_ : pubR M ts rs) (v1 v2 v3 : Int32) (u : Int64) : (f_X11_open v1 u v2 v3 ts M).2.1 117 = M.1 117 := ((w_f_X11_open v1 u v2 v3 ts M).m 117 (by simp)).1
set_option maxRecDepth 100000 in
theorem l_k0 (C : l_C p c m meth s D r b L xs) (w : mm_W D s.heap.size r M s H locs) (hl : l_L ls r b i) (hi : i + 6 ≤ L) (hp : pubR M ts rs) (hf : cells ≤ room_1.cells ∧ slots ≤ room_1.slots) (kk : l_K p l e s m below meth c cells slots Q D r b ls) : W p l e room_1 s m #[Value.ref b] below meth c H locs cells slots Q (F0 m 128 ls []) := by
  refine lv_aload_n C.1.1 C.1.2.1 dL_law_128 rfl (lv_at hl 2 rfl) ?_
  refine l_ld C w hl (k := 1) (by omega) rfl dL_law_129 dL_law_130 dL_law_131 dL_law_132 dL_law_133 ?_
  refine l_ld C w hl (k := 2) (by omega) rfl dL_law_134 dL_law_135 dL_law_136 dL_law_137 dL_law_138 ?_
  refine l_ld C w hl (k := 3) (by omega) rfl dL_law_139 dL_law_140 dL_law_141 dL_law_142 dL_law_143 ?_
  refine l_ld C w hl (k := 4) (by omega) rfl dL_law_144 dL_law_145 dL_law_146 dL_law_147 dL_law_148 ?_
  refine l_ld C w hl (k := 5) (by omega) rfl dL_law_149 dL_law_150 dL_law_151 dL_law_152 dL_law_153 ?_
  refine m_cvi C.1 w hl cvL_13 (k := 0) (by decide) rfl (q := (RX11, TX11, 7)) rfl rfl (As := [.int (xs (i + 1)), .int (xs (i + 2)), .int (xs (i + 3)), .int (xs (i + 4)), .int (xs (i + 5))]) (rest := []) (c_X11_feed l D _ r M (xs (i + 1)) (xs (i + 2)) (xs (i + 3)) (xs (i + 4)) (xs (i + 5)) ts hp.1.1 hp.2.1.1) rfl rfl (Nat.le_of_ble_eq_true rfl) ⟨(Nat.le_of_ble_eq_true rfl), (Nat.le_of_ble_eq_true rfl)⟩ hf dL_law_154 (fun a1 M1 H locs e1 w => ?_)
  have e1 : (a1, M1) = f_X11_feed (xs (i + 1)) (xs (i + 2)) (xs (i + 3)) (xs (i + 4)) (xs (i + 5)) ts M := e1
  have g1 : M1.1 117 = M.1 117 := (congrArg (fun z => z.2.1 117) e1).trans (b_feed hp (xs (i + 1)) (xs (i + 2)) (xs (i + 3)) (xs (i + 4)) (xs (i + 5)))
  refine lv_aload_n C.1.1 C.1.2.1 dL_law_157 rfl (lv_at hl 1 rfl) ?_
  refine l_ld C w hl (k := 1) (by omega) rfl dL_law_158 dL_law_159 dL_law_160 dL_law_161 dL_law_162 ?_
  refine l_ld C w hl (k := 2) (by omega) rfl dL_law_163 dL_law_164 dL_law_165 dL_law_166 dL_law_167 ?_
  refine l_ld C w hl (k := 3) (by omega) rfl dL_law_168 dL_law_169 dL_law_170 dL_law_171 dL_law_172 ?_
  refine l_ld C w hl (k := 4) (by omega) rfl dL_law_173 dL_law_174 dL_law_175 dL_law_176 dL_law_177 ?_
  refine l_ld C w hl (k := 5) (by omega) rfl dL_law_178 dL_law_179 dL_law_180 dL_law_181 dL_law_182 ?_
  refine m_cvi C.1 w hl cvL_17 (k := 117) (by decide) rfl (q := (RX12, TX12, 58)) rfl rfl (As := [.int (xs (i + 1)), .int (xs (i + 2)), .int (xs (i + 3)), .int (xs (i + 4)), .int (xs (i + 5))]) (rest := [.int a1]) (c_X12_feed l D _ r M1 (xs (i + 1)) (xs (i + 2)) (xs (i + 3)) (xs (i + 4)) (xs (i + 5)) ts hp.1.1 (by rw [g1]; exact hp.2.1.2.1)) rfl rfl (Nat.le_of_ble_eq_true rfl) ⟨(Nat.le_of_ble_eq_true rfl), (Nat.le_of_ble_eq_true rfl)⟩ hf dL_law_183 (fun a2 M2 H locs e2 w => ?_)
  have e2 : (a2, M2) = f_X12_feed (xs (i + 1)) (xs (i + 2)) (xs (i + 3)) (xs (i + 4)) (xs (i + 5)) ts M1 := e2
  have q := p_feed hp (xs (i + 1)) (xs (i + 2)) (xs (i + 3)) (xs (i + 4)) (xs (i + 5))
  rw [← e1] at q
  exact l_end C q e2 w kk dL_law_186 (by decide)
set_option maxRecDepth 100000 in
theorem l_k1 (C : l_C p c m meth s D r b L xs) (w : mm_W D s.heap.size r M s H locs) (hl : l_L ls r b i) (hi : i + 6 ≤ L) (hp : pubR M ts rs) (hf : cells ≤ room_1.cells ∧ slots ≤ room_1.slots) (kk : l_K p l e s m below meth c cells slots Q D r b ls) : W p l e room_1 s m #[Value.ref b] below meth c H locs cells slots Q (F0 m 191 ls []) := by
  refine lv_aload_n C.1.1 C.1.2.1 dL_law_191 rfl (lv_at hl 2 rfl) ?_
  refine m_cvi C.1 w hl cvL_18 (k := 0) (by decide) rfl (q := (RX11, TX11, 7)) rfl rfl (As := []) (rest := []) (c_X11_turn l D _ r M  rs hp.1.2 hp.2.1.2.2.1) rfl rfl (Nat.le_of_ble_eq_true rfl) ⟨(Nat.le_of_ble_eq_true rfl), (Nat.le_of_ble_eq_true rfl)⟩ hf dL_law_192 (fun a1 M1 H locs e1 w => ?_)
  have e1 : (a1, M1) = f_X11_turn  rs M := e1
  have g1 : M1.1 117 = M.1 117 := (congrArg (fun z => z.2.1 117) e1).trans (b_turn hp )
  refine lv_aload_n C.1.1 C.1.2.1 dL_law_195 rfl (lv_at hl 1 rfl) ?_
  refine m_cvi C.1 w hl cvL_22 (k := 117) (by decide) rfl (q := (RX12, TX12, 58)) rfl rfl (As := []) (rest := [.int a1]) (c_X12_turn l D _ r M1  rs hp.1.2 (by rw [g1]; exact hp.2.1.2.2.2)) rfl rfl (Nat.le_of_ble_eq_true rfl) ⟨(Nat.le_of_ble_eq_true rfl), (Nat.le_of_ble_eq_true rfl)⟩ hf dL_law_196 (fun a2 M2 H locs e2 w => ?_)
  have e2 : (a2, M2) = f_X12_turn  rs M1 := e2
  have q := p_turn hp 
  rw [← e1] at q
  exact l_end C q e2 w kk dL_law_199 (by decide)
set_option maxRecDepth 100000 in
theorem l_k2 (C : l_C p c m meth s D r b L xs) (w : mm_W D s.heap.size r M s H locs) (hl : l_L ls r b i) (hi : i + 6 ≤ L) (hp : pubR M ts rs) (hf : cells ≤ room_1.cells ∧ slots ≤ room_1.slots) (kk : l_K p l e s m below meth c cells slots Q D r b ls) : W p l e room_1 s m #[Value.ref b] below meth c H locs cells slots Q (F0 m 204 ls []) := by
  refine lv_aload_n C.1.1 C.1.2.1 dL_law_204 rfl (lv_at hl 2 rfl) ?_
  refine l_ld C w hl (k := 1) (by omega) rfl dL_law_205 dL_law_206 dL_law_207 dL_law_208 dL_law_209 ?_
  refine l_ld C w hl (k := 2) (by omega) rfl dL_law_210 dL_law_211 dL_law_212 dL_law_213 dL_law_214 ?_
  refine m_cvi C.1 w hl cvL_23 (k := 0) (by decide) rfl (q := (RX11, TX11, 7)) rfl rfl (As := [.int (xs (i + 1)), .int (xs (i + 2))]) (rest := []) (c_X11_patch l D _ r M (xs (i + 1)) (xs (i + 2)) ts hp.1.1 hp.2.1.1) rfl rfl (Nat.le_of_ble_eq_true rfl) ⟨(Nat.le_of_ble_eq_true rfl), (Nat.le_of_ble_eq_true rfl)⟩ hf dL_law_215 (fun a1 M1 H locs e1 w => ?_)
  have e1 : (a1, M1) = f_X11_patch (xs (i + 1)) (xs (i + 2)) ts M := e1
  have g1 : M1.1 117 = M.1 117 := (congrArg (fun z => z.2.1 117) e1).trans (b_patch hp (xs (i + 1)) (xs (i + 2)))
  refine lv_aload_n C.1.1 C.1.2.1 dL_law_218 rfl (lv_at hl 1 rfl) ?_
  refine l_ld C w hl (k := 1) (by omega) rfl dL_law_219 dL_law_220 dL_law_221 dL_law_222 dL_law_223 ?_
  refine l_ld C w hl (k := 2) (by omega) rfl dL_law_224 dL_law_225 dL_law_226 dL_law_227 dL_law_228 ?_
  refine m_cvi C.1 w hl cvL_27 (k := 117) (by decide) rfl (q := (RX12, TX12, 58)) rfl rfl (As := [.int (xs (i + 1)), .int (xs (i + 2))]) (rest := [.int a1]) (c_X12_patch l D _ r M1 (xs (i + 1)) (xs (i + 2)) ts hp.1.1 (by rw [g1]; exact hp.2.1.2.1)) rfl rfl (Nat.le_of_ble_eq_true rfl) ⟨(Nat.le_of_ble_eq_true rfl), (Nat.le_of_ble_eq_true rfl)⟩ hf dL_law_229 (fun a2 M2 H locs e2 w => ?_)
  have e2 : (a2, M2) = f_X12_patch (xs (i + 1)) (xs (i + 2)) ts M1 := e2
  have q := p_patch hp (xs (i + 1)) (xs (i + 2))
  rw [← e1] at q
  exact l_end C q e2 w kk dL_law_232 (by decide)
set_option maxRecDepth 100000 in
theorem l_k3 (C : l_C p c m meth s D r b L xs) (w : mm_W D s.heap.size r M s H locs) (hl : l_L ls r b i) (hi : i + 6 ≤ L) (hp : pubR M ts rs) (hf : cells ≤ room_1.cells ∧ slots ≤ room_1.slots) (kk : l_K p l e s m below meth c cells slots Q D r b ls) : W p l e room_1 s m #[Value.ref b] below meth c H locs cells slots Q (F0 m 237 ls []) := by
  refine lv_aload_n C.1.1 C.1.2.1 dL_law_237 rfl (lv_at hl 2 rfl) ?_
  refine l_ld C w hl (k := 1) (by omega) rfl dL_law_238 dL_law_239 dL_law_240 dL_law_241 dL_law_242 ?_
  refine m_cvi C.1 w hl cvL_28 (k := 0) (by decide) rfl (q := (RX11, TX11, 7)) rfl rfl (As := [.int (xs (i + 1))]) (rest := []) (c_X11_key l D _ r M (xs (i + 1)) ts hp.1.1 hp.2.1.1) rfl rfl (Nat.le_of_ble_eq_true rfl) ⟨(Nat.le_of_ble_eq_true rfl), (Nat.le_of_ble_eq_true rfl)⟩ hf dL_law_243 (fun a1 M1 H locs e1 w => ?_)
  have e1 : (a1, M1) = f_X11_key (xs (i + 1)) ts M := e1
  have g1 : M1.1 117 = M.1 117 := (congrArg (fun z => z.2.1 117) e1).trans (b_key hp (xs (i + 1)))
  refine lv_aload_n C.1.1 C.1.2.1 dL_law_246 rfl (lv_at hl 1 rfl) ?_
  refine l_ld C w hl (k := 1) (by omega) rfl dL_law_247 dL_law_248 dL_law_249 dL_law_250 dL_law_251 ?_
  refine m_cvi C.1 w hl cvL_32 (k := 117) (by decide) rfl (q := (RX12, TX12, 58)) rfl rfl (As := [.int (xs (i + 1))]) (rest := [.int a1]) (c_X12_key l D _ r M1 (xs (i + 1)) ts hp.1.1 (by rw [g1]; exact hp.2.1.2.1)) rfl rfl (Nat.le_of_ble_eq_true rfl) ⟨(Nat.le_of_ble_eq_true rfl), (Nat.le_of_ble_eq_true rfl)⟩ hf dL_law_252 (fun a2 M2 H locs e2 w => ?_)
  have e2 : (a2, M2) = f_X12_key (xs (i + 1)) ts M1 := e2
  have q := p_key hp (xs (i + 1))
  rw [← e1] at q
  exact l_end C q e2 w kk dL_law_255 (by decide)
set_option maxRecDepth 100000 in
theorem l_k4 (C : l_C p c m meth s D r b L xs) (w : mm_W D s.heap.size r M s H locs) (hl : l_L ls r b i) (hi : i + 6 ≤ L) (hp : pubR M ts rs) (hf : cells ≤ room_1.cells ∧ slots ≤ room_1.slots) (kk : l_K p l e s m below meth c cells slots Q D r b ls) : W p l e room_1 s m #[Value.ref b] below meth c H locs cells slots Q (F0 m 260 ls []) := by
  refine lv_aload_n C.1.1 C.1.2.1 dL_law_260 rfl (lv_at hl 2 rfl) ?_
  refine l_ld C w hl (k := 1) (by omega) rfl dL_law_261 dL_law_262 dL_law_263 dL_law_264 dL_law_265 ?_
  refine m_cvi C.1 w hl cvL_33 (k := 0) (by decide) rfl (q := (RX11, TX11, 7)) rfl rfl (As := [.int (xs (i + 1))]) (rest := []) (c_X11_take l D _ r M (xs (i + 1)) rs hp.1.2 hp.2.1.2.2.1) rfl rfl (Nat.le_of_ble_eq_true rfl) ⟨(Nat.le_of_ble_eq_true rfl), (Nat.le_of_ble_eq_true rfl)⟩ hf dL_law_266 (fun a1 M1 H locs e1 w => ?_)
  have e1 : (a1, M1) = f_X11_take (xs (i + 1)) rs M := e1
  have g1 : M1.1 117 = M.1 117 := (congrArg (fun z => z.2.1 117) e1).trans (b_take hp (xs (i + 1)))
  refine lv_aload_n C.1.1 C.1.2.1 dL_law_269 rfl (lv_at hl 1 rfl) ?_
  refine l_ld C w hl (k := 1) (by omega) rfl dL_law_270 dL_law_271 dL_law_272 dL_law_273 dL_law_274 ?_
  refine m_cvi C.1 w hl cvL_36 (k := 117) (by decide) rfl (q := (RX12, TX12, 58)) rfl rfl (As := [.int (xs (i + 1))]) (rest := [.int a1]) (c_X12_take l D _ r M1 (xs (i + 1)) rs hp.1.2 (by rw [g1]; exact hp.2.1.2.2.2)) rfl rfl (Nat.le_of_ble_eq_true rfl) ⟨(Nat.le_of_ble_eq_true rfl), (Nat.le_of_ble_eq_true rfl)⟩ hf dL_law_275 (fun a2 M2 H locs e2 w => ?_)
  have e2 : (a2, M2) = f_X12_take (xs (i + 1)) rs M1 := e2
  have q := p_take hp (xs (i + 1))
  rw [← e1] at q
  exact l_end C q e2 w kk dL_law_278 (by decide)
set_option maxRecDepth 100000 in
theorem l_k5 (C : l_C p c m meth s D r b L xs) (w : mm_W D s.heap.size r M s H locs) (hl : l_L ls r b i) (hi : i + 6 ≤ L) (hp : pubR M ts rs) (hf : cells ≤ room_1.cells ∧ slots ≤ room_1.slots) (kk : l_K p l e s m below meth c cells slots Q D r b ls) : W p l e room_1 s m #[Value.ref b] below meth c H locs cells slots Q (F0 m 283 ls []) := by
  refine lv_aload_n C.1.1 C.1.2.1 dL_law_283 rfl (lv_at hl 2 rfl) ?_
  refine l_ld C w hl (k := 1) (by omega) rfl dL_law_284 dL_law_285 dL_law_286 dL_law_287 dL_law_288 ?_
  refine l_ld C w hl (k := 2) (by omega) rfl dL_law_289 dL_law_290 dL_law_291 dL_law_292 dL_law_293 ?_
  refine l_nz C dL_law_294 dL_law_297 dL_law_298 dL_law_301 ?_
  refine m_cvi C.1 w hl cvL_37 (k := 0) (by decide) rfl (q := (RX11, TX11, 7)) rfl rfl (As := [.int (xs (i + 1)), .int (if xs (i + 2) = 0 then 0 else 1)]) (rest := []) (c_X11_curve l D _ r M (xs (i + 1)) (if xs (i + 2) = 0 then 0 else 1) ts hp.1.1 hp.2.1.1) rfl rfl (Nat.le_of_ble_eq_true rfl) ⟨(Nat.le_of_ble_eq_true rfl), (Nat.le_of_ble_eq_true rfl)⟩ hf dL_law_302 (fun a1 M1 H locs e1 w => ?_)
  have e1 : (a1, M1) = f_X11_curve (xs (i + 1)) (if xs (i + 2) = 0 then 0 else 1) ts M := e1
  have g1 : M1.1 117 = M.1 117 := (congrArg (fun z => z.2.1 117) e1).trans (b_curve hp (xs (i + 1)) (if xs (i + 2) = 0 then 0 else 1))
  refine lv_aload_n C.1.1 C.1.2.1 dL_law_305 rfl (lv_at hl 1 rfl) ?_
  refine l_ld C w hl (k := 1) (by omega) rfl dL_law_306 dL_law_307 dL_law_308 dL_law_309 dL_law_310 ?_
  refine l_ld C w hl (k := 2) (by omega) rfl dL_law_311 dL_law_312 dL_law_313 dL_law_314 dL_law_315 ?_
  refine l_nz C dL_law_316 dL_law_319 dL_law_320 dL_law_323 ?_
  refine m_cvi C.1 w hl cvL_41 (k := 117) (by decide) rfl (q := (RX12, TX12, 58)) rfl rfl (As := [.int (xs (i + 1)), .int (if xs (i + 2) = 0 then 0 else 1)]) (rest := [.int a1]) (c_X12_curve l D _ r M1 (xs (i + 1)) (if xs (i + 2) = 0 then 0 else 1) ts hp.1.1 (by rw [g1]; exact hp.2.1.2.1)) rfl rfl (Nat.le_of_ble_eq_true rfl) ⟨(Nat.le_of_ble_eq_true rfl), (Nat.le_of_ble_eq_true rfl)⟩ hf dL_law_324 (fun a2 M2 H locs e2 w => ?_)
  have e2 : (a2, M2) = f_X12_curve (xs (i + 1)) (if xs (i + 2) = 0 then 0 else 1) ts M1 := e2
  have q := p_curve hp (xs (i + 1)) (if xs (i + 2) = 0 then 0 else 1)
  rw [← e1] at q
  exact l_end C q e2 w kk dL_law_327 (by decide)
set_option maxRecDepth 100000 in
theorem l_k6 (C : l_C p c m meth s D r b L xs) (w : mm_W D s.heap.size r M s H locs) (hl : l_L ls r b i) (hi : i + 6 ≤ L) (hp : pubR M ts rs) (hf : cells ≤ room_1.cells ∧ slots ≤ room_1.slots) (kk : l_K p l e s m below meth c cells slots Q D r b ls) : W p l e room_1 s m #[Value.ref b] below meth c H locs cells slots Q (F0 m 332 ls []) := by
  refine lv_aload_n C.1.1 C.1.2.1 dL_law_332 rfl (lv_at hl 2 rfl) ?_
  refine l_ld C w hl (k := 1) (by omega) rfl dL_law_333 dL_law_334 dL_law_335 dL_law_336 dL_law_337 ?_
  refine m_cvi C.1 w hl cvL_42 (k := 0) (by decide) rfl (q := (RX11, TX11, 7)) rfl rfl (As := [.int (xs (i + 1))]) (rest := []) (c_X11_hash l D _ r M (xs (i + 1)) ts hp.1.1 hp.2.1.1) rfl rfl (Nat.le_of_ble_eq_true rfl) ⟨(Nat.le_of_ble_eq_true rfl), (Nat.le_of_ble_eq_true rfl)⟩ hf dL_law_338 (fun a1 M1 H locs e1 w => ?_)
  have e1 : (a1, M1) = f_X11_hash (xs (i + 1)) ts M := e1
  have g1 : M1.1 117 = M.1 117 := (congrArg (fun z => z.2.1 117) e1).trans (b_hash hp (xs (i + 1)))
  refine lv_aload_n C.1.1 C.1.2.1 dL_law_341 rfl (lv_at hl 1 rfl) ?_
  refine l_ld C w hl (k := 1) (by omega) rfl dL_law_342 dL_law_343 dL_law_344 dL_law_345 dL_law_346 ?_
  refine m_cvi C.1 w hl cvL_46 (k := 117) (by decide) rfl (q := (RX12, TX12, 58)) rfl rfl (As := [.int (xs (i + 1))]) (rest := [.int a1]) (c_X12_hash l D _ r M1 (xs (i + 1)) ts hp.1.1 (by rw [g1]; exact hp.2.1.2.1)) rfl rfl (Nat.le_of_ble_eq_true rfl) ⟨(Nat.le_of_ble_eq_true rfl), (Nat.le_of_ble_eq_true rfl)⟩ hf dL_law_347 (fun a2 M2 H locs e2 w => ?_)
  have e2 : (a2, M2) = f_X12_hash (xs (i + 1)) ts M1 := e2
  have q := p_hash hp (xs (i + 1))
  rw [← e1] at q
  exact l_end C q e2 w kk dL_law_350 (by decide)
set_option maxRecDepth 100000 in
theorem l_k7 (C : l_C p c m meth s D r b L xs) (w : mm_W D s.heap.size r M s H locs) (hl : l_L ls r b i) (hi : i + 6 ≤ L) (hp : pubR M ts rs) (hf : cells ≤ room_1.cells ∧ slots ≤ room_1.slots) (kk : l_K p l e s m below meth c cells slots Q D r b ls) : W p l e room_1 s m #[Value.ref b] below meth c H locs cells slots Q (F0 m 355 ls []) := by
  refine lv_aload_n C.1.1 C.1.2.1 dL_law_355 rfl (lv_at hl 2 rfl) ?_
  refine l_ld C w hl (k := 1) (by omega) rfl dL_law_356 dL_law_357 dL_law_358 dL_law_359 dL_law_360 ?_
  refine l_ld C w hl (k := 2) (by omega) rfl dL_law_361 dL_law_362 dL_law_363 dL_law_364 dL_law_365 ?_
  refine m_cvi C.1 w hl cvL_47 (k := 0) (by decide) rfl (q := (RX11, TX11, 7)) rfl rfl (As := [.int (xs (i + 1)), .int (xs (i + 2))]) (rest := []) (c_X11_mac l D _ r M (xs (i + 1)) (xs (i + 2)) ts hp.1.1 hp.2.1.1) rfl rfl (Nat.le_of_ble_eq_true rfl) ⟨(Nat.le_of_ble_eq_true rfl), (Nat.le_of_ble_eq_true rfl)⟩ hf dL_law_366 (fun a1 M1 H locs e1 w => ?_)
  have e1 : (a1, M1) = f_X11_mac (xs (i + 1)) (xs (i + 2)) ts M := e1
  have g1 : M1.1 117 = M.1 117 := (congrArg (fun z => z.2.1 117) e1).trans (b_mac hp (xs (i + 1)) (xs (i + 2)))
  refine lv_aload_n C.1.1 C.1.2.1 dL_law_369 rfl (lv_at hl 1 rfl) ?_
  refine l_ld C w hl (k := 1) (by omega) rfl dL_law_370 dL_law_371 dL_law_372 dL_law_373 dL_law_374 ?_
  refine l_ld C w hl (k := 2) (by omega) rfl dL_law_375 dL_law_376 dL_law_377 dL_law_378 dL_law_379 ?_
  refine m_cvi C.1 w hl cvL_51 (k := 117) (by decide) rfl (q := (RX12, TX12, 58)) rfl rfl (As := [.int (xs (i + 1)), .int (xs (i + 2))]) (rest := [.int a1]) (c_X12_mac l D _ r M1 (xs (i + 1)) (xs (i + 2)) ts hp.1.1 (by rw [g1]; exact hp.2.1.2.1)) rfl rfl (Nat.le_of_ble_eq_true rfl) ⟨(Nat.le_of_ble_eq_true rfl), (Nat.le_of_ble_eq_true rfl)⟩ hf dL_law_380 (fun a2 M2 H locs e2 w => ?_)
  have e2 : (a2, M2) = f_X12_mac (xs (i + 1)) (xs (i + 2)) ts M1 := e2
  have q := p_mac hp (xs (i + 1)) (xs (i + 2))
  rw [← e1] at q
  exact l_end C q e2 w kk dL_law_383 (by decide)
set_option maxRecDepth 100000 in
theorem l_k8 (C : l_C p c m meth s D r b L xs) (w : mm_W D s.heap.size r M s H locs) (hl : l_L ls r b i) (hi : i + 6 ≤ L) (hp : pubR M ts rs) (hf : cells ≤ room_1.cells ∧ slots ≤ room_1.slots) (kk : l_K p l e s m below meth c cells slots Q D r b ls) : W p l e room_1 s m #[Value.ref b] below meth c H locs cells slots Q (F0 m 388 ls []) := by
  refine lv_aload_n C.1.1 C.1.2.1 dL_law_388 rfl (lv_at hl 2 rfl) ?_
  refine l_ld C w hl (k := 1) (by omega) rfl dL_law_389 dL_law_390 dL_law_391 dL_law_392 dL_law_393 ?_
  refine l_ld C w hl (k := 2) (by omega) rfl dL_law_394 dL_law_395 dL_law_396 dL_law_397 dL_law_398 ?_
  refine lv_i2l C.1.1 C.1.2.1 dL_law_399 rfl ?_
  refine lv_bipush (v := 32) C.1.1 C.1.2.1 dL_law_400 (by decide) ?_
  refine lv_lshl C.1.1 C.1.2.1 dL_law_402 rfl ?_
  refine l_ld C w hl (k := 3) (by omega) rfl dL_law_403 dL_law_404 dL_law_405 dL_law_406 dL_law_407 ?_
  refine lv_i2l C.1.1 C.1.2.1 dL_law_408 rfl ?_
  refine lv_ldc2 (v := 4294967295) C.1.1 C.1.2.1 C.1.2.2.2.1 (C.1.2.2.2.2.1 _ klL_52) dL_law_409 ?_
  refine lv_land C.1.1 C.1.2.1 dL_law_412 ?_
  refine lv_lor C.1.1 C.1.2.1 dL_law_413 ?_
  refine l_ld C w hl (k := 4) (by omega) rfl dL_law_414 dL_law_415 dL_law_416 dL_law_417 dL_law_418 ?_
  refine l_ld C w hl (k := 5) (by omega) rfl dL_law_419 dL_law_420 dL_law_421 dL_law_422 dL_law_423 ?_
  refine m_cvi C.1 w hl cvL_54 (k := 0) (by decide) rfl (q := (RX11, TX11, 7)) rfl rfl (As := [.int (xs (i + 1)), .long ((((xs (i + 2)).toInt64 <<< ((32 : Int32).toInt64 &&& 63)) ||| ((xs (i + 3)).toInt64 &&& 4294967295))), .int (xs (i + 4)), .int (xs (i + 5))]) (rest := []) (c_X11_seal l D _ r M (xs (i + 1)) ((((xs (i + 2)).toInt64 <<< ((32 : Int32).toInt64 &&& 63)) ||| ((xs (i + 3)).toInt64 &&& 4294967295))) (xs (i + 4)) (xs (i + 5)) ts hp.1.1 hp.2.1.1) rfl rfl (Nat.le_of_ble_eq_true rfl) ⟨(Nat.le_of_ble_eq_true rfl), (Nat.le_of_ble_eq_true rfl)⟩ hf dL_law_424 (fun a1 M1 H locs e1 w => ?_)
  have e1 : (a1, M1) = f_X11_seal (xs (i + 1)) ((((xs (i + 2)).toInt64 <<< ((32 : Int32).toInt64 &&& 63)) ||| ((xs (i + 3)).toInt64 &&& 4294967295))) (xs (i + 4)) (xs (i + 5)) ts M := e1
  have g1 : M1.1 117 = M.1 117 := (congrArg (fun z => z.2.1 117) e1).trans (b_seal hp (xs (i + 1)) (xs (i + 4)) (xs (i + 5)) ((((xs (i + 2)).toInt64 <<< ((32 : Int32).toInt64 &&& 63)) ||| ((xs (i + 3)).toInt64 &&& 4294967295))))
  refine lv_aload_n C.1.1 C.1.2.1 dL_law_427 rfl (lv_at hl 1 rfl) ?_
  refine l_ld C w hl (k := 1) (by omega) rfl dL_law_428 dL_law_429 dL_law_430 dL_law_431 dL_law_432 ?_
  refine l_ld C w hl (k := 2) (by omega) rfl dL_law_433 dL_law_434 dL_law_435 dL_law_436 dL_law_437 ?_
  refine lv_i2l C.1.1 C.1.2.1 dL_law_438 rfl ?_
  refine lv_bipush (v := 32) C.1.1 C.1.2.1 dL_law_439 (by decide) ?_
  refine lv_lshl C.1.1 C.1.2.1 dL_law_441 rfl ?_
  refine l_ld C w hl (k := 3) (by omega) rfl dL_law_442 dL_law_443 dL_law_444 dL_law_445 dL_law_446 ?_
  refine lv_i2l C.1.1 C.1.2.1 dL_law_447 rfl ?_
  refine lv_ldc2 (v := 4294967295) C.1.1 C.1.2.1 C.1.2.2.2.1 (C.1.2.2.2.2.1 _ klL_52) dL_law_448 ?_
  refine lv_land C.1.1 C.1.2.1 dL_law_451 ?_
  refine lv_lor C.1.1 C.1.2.1 dL_law_452 ?_
  refine l_ld C w hl (k := 4) (by omega) rfl dL_law_453 dL_law_454 dL_law_455 dL_law_456 dL_law_457 ?_
  refine l_ld C w hl (k := 5) (by omega) rfl dL_law_458 dL_law_459 dL_law_460 dL_law_461 dL_law_462 ?_
  refine m_cvi C.1 w hl cvL_58 (k := 117) (by decide) rfl (q := (RX12, TX12, 58)) rfl rfl (As := [.int (xs (i + 1)), .long ((((xs (i + 2)).toInt64 <<< ((32 : Int32).toInt64 &&& 63)) ||| ((xs (i + 3)).toInt64 &&& 4294967295))), .int (xs (i + 4)), .int (xs (i + 5))]) (rest := [.int a1]) (c_X12_seal l D _ r M1 (xs (i + 1)) ((((xs (i + 2)).toInt64 <<< ((32 : Int32).toInt64 &&& 63)) ||| ((xs (i + 3)).toInt64 &&& 4294967295))) (xs (i + 4)) (xs (i + 5)) ts hp.1.1 (by rw [g1]; exact hp.2.1.2.1)) rfl rfl (Nat.le_of_ble_eq_true rfl) ⟨(Nat.le_of_ble_eq_true rfl), (Nat.le_of_ble_eq_true rfl)⟩ hf dL_law_463 (fun a2 M2 H locs e2 w => ?_)
  have e2 : (a2, M2) = f_X12_seal (xs (i + 1)) ((((xs (i + 2)).toInt64 <<< ((32 : Int32).toInt64 &&& 63)) ||| ((xs (i + 3)).toInt64 &&& 4294967295))) (xs (i + 4)) (xs (i + 5)) ts M1 := e2
  have q := p_seal hp (xs (i + 1)) ((((xs (i + 2)).toInt64 <<< ((32 : Int32).toInt64 &&& 63)) ||| ((xs (i + 3)).toInt64 &&& 4294967295))) (xs (i + 4)) (xs (i + 5))
  rw [← e1] at q
  exact l_end C q e2 w kk dL_law_466 (by decide)
set_option maxRecDepth 100000 in
theorem l_k9 (C : l_C p c m meth s D r b L xs) (w : mm_W D s.heap.size r M s H locs) (hl : l_L ls r b i) (hi : i + 6 ≤ L) (hp : pubR M ts rs) (hf : cells ≤ room_1.cells ∧ slots ≤ room_1.slots) (kk : l_K p l e s m below meth c cells slots Q D r b ls) : W p l e room_1 s m #[Value.ref b] below meth c H locs cells slots Q (F0 m 471 ls []) := by
  refine lv_aload_n C.1.1 C.1.2.1 dL_law_471 rfl (lv_at hl 2 rfl) ?_
  refine l_ld C w hl (k := 1) (by omega) rfl dL_law_472 dL_law_473 dL_law_474 dL_law_475 dL_law_476 ?_
  refine l_ld C w hl (k := 2) (by omega) rfl dL_law_477 dL_law_478 dL_law_479 dL_law_480 dL_law_481 ?_
  refine lv_i2l C.1.1 C.1.2.1 dL_law_482 rfl ?_
  refine lv_bipush (v := 32) C.1.1 C.1.2.1 dL_law_483 (by decide) ?_
  refine lv_lshl C.1.1 C.1.2.1 dL_law_485 rfl ?_
  refine l_ld C w hl (k := 3) (by omega) rfl dL_law_486 dL_law_487 dL_law_488 dL_law_489 dL_law_490 ?_
  refine lv_i2l C.1.1 C.1.2.1 dL_law_491 rfl ?_
  refine lv_ldc2 (v := 4294967295) C.1.1 C.1.2.1 C.1.2.2.2.1 (C.1.2.2.2.2.1 _ klL_52) dL_law_492 ?_
  refine lv_land C.1.1 C.1.2.1 dL_law_495 ?_
  refine lv_lor C.1.1 C.1.2.1 dL_law_496 ?_
  refine l_ld C w hl (k := 4) (by omega) rfl dL_law_497 dL_law_498 dL_law_499 dL_law_500 dL_law_501 ?_
  refine l_ld C w hl (k := 5) (by omega) rfl dL_law_502 dL_law_503 dL_law_504 dL_law_505 dL_law_506 ?_
  refine m_cvi C.1 w hl cvL_59 (k := 0) (by decide) rfl (q := (RX11, TX11, 7)) rfl rfl (As := [.int (xs (i + 1)), .long ((((xs (i + 2)).toInt64 <<< ((32 : Int32).toInt64 &&& 63)) ||| ((xs (i + 3)).toInt64 &&& 4294967295))), .int (xs (i + 4)), .int (xs (i + 5))]) (rest := []) (c_X11_open l D _ r M (xs (i + 1)) ((((xs (i + 2)).toInt64 <<< ((32 : Int32).toInt64 &&& 63)) ||| ((xs (i + 3)).toInt64 &&& 4294967295))) (xs (i + 4)) (xs (i + 5)) ts hp.1.1 hp.2.1.1) rfl rfl (Nat.le_of_ble_eq_true rfl) ⟨(Nat.le_of_ble_eq_true rfl), (Nat.le_of_ble_eq_true rfl)⟩ hf dL_law_507 (fun a1 M1 H locs e1 w => ?_)
  have e1 : (a1, M1) = f_X11_open (xs (i + 1)) ((((xs (i + 2)).toInt64 <<< ((32 : Int32).toInt64 &&& 63)) ||| ((xs (i + 3)).toInt64 &&& 4294967295))) (xs (i + 4)) (xs (i + 5)) ts M := e1
  have g1 : M1.1 117 = M.1 117 := (congrArg (fun z => z.2.1 117) e1).trans (b_open hp (xs (i + 1)) (xs (i + 4)) (xs (i + 5)) ((((xs (i + 2)).toInt64 <<< ((32 : Int32).toInt64 &&& 63)) ||| ((xs (i + 3)).toInt64 &&& 4294967295))))
  refine lv_aload_n C.1.1 C.1.2.1 dL_law_510 rfl (lv_at hl 1 rfl) ?_
  refine l_ld C w hl (k := 1) (by omega) rfl dL_law_511 dL_law_512 dL_law_513 dL_law_514 dL_law_515 ?_
  refine l_ld C w hl (k := 2) (by omega) rfl dL_law_516 dL_law_517 dL_law_518 dL_law_519 dL_law_520 ?_
  refine lv_i2l C.1.1 C.1.2.1 dL_law_521 rfl ?_
  refine lv_bipush (v := 32) C.1.1 C.1.2.1 dL_law_522 (by decide) ?_
  refine lv_lshl C.1.1 C.1.2.1 dL_law_524 rfl ?_
  refine l_ld C w hl (k := 3) (by omega) rfl dL_law_525 dL_law_526 dL_law_527 dL_law_528 dL_law_529 ?_
  refine lv_i2l C.1.1 C.1.2.1 dL_law_530 rfl ?_
  refine lv_ldc2 (v := 4294967295) C.1.1 C.1.2.1 C.1.2.2.2.1 (C.1.2.2.2.2.1 _ klL_52) dL_law_531 ?_
  refine lv_land C.1.1 C.1.2.1 dL_law_534 ?_
  refine lv_lor C.1.1 C.1.2.1 dL_law_535 ?_
  refine l_ld C w hl (k := 4) (by omega) rfl dL_law_536 dL_law_537 dL_law_538 dL_law_539 dL_law_540 ?_
  refine l_ld C w hl (k := 5) (by omega) rfl dL_law_541 dL_law_542 dL_law_543 dL_law_544 dL_law_545 ?_
  refine m_cvi C.1 w hl cvL_62 (k := 117) (by decide) rfl (q := (RX12, TX12, 58)) rfl rfl (As := [.int (xs (i + 1)), .long ((((xs (i + 2)).toInt64 <<< ((32 : Int32).toInt64 &&& 63)) ||| ((xs (i + 3)).toInt64 &&& 4294967295))), .int (xs (i + 4)), .int (xs (i + 5))]) (rest := [.int a1]) (c_X12_open l D _ r M1 (xs (i + 1)) ((((xs (i + 2)).toInt64 <<< ((32 : Int32).toInt64 &&& 63)) ||| ((xs (i + 3)).toInt64 &&& 4294967295))) (xs (i + 4)) (xs (i + 5)) ts hp.1.1 (by rw [g1]; exact hp.2.1.2.1)) rfl rfl (Nat.le_of_ble_eq_true rfl) ⟨(Nat.le_of_ble_eq_true rfl), (Nat.le_of_ble_eq_true rfl)⟩ hf dL_law_546 (fun a2 M2 H locs e2 w => ?_)
  have e2 : (a2, M2) = f_X12_open (xs (i + 1)) ((((xs (i + 2)).toInt64 <<< ((32 : Int32).toInt64 &&& 63)) ||| ((xs (i + 3)).toInt64 &&& 4294967295))) (xs (i + 4)) (xs (i + 5)) ts M1 := e2
  have q := p_open hp (xs (i + 1)) ((((xs (i + 2)).toInt64 <<< ((32 : Int32).toInt64 &&& 63)) ||| ((xs (i + 3)).toInt64 &&& 4294967295))) (xs (i + 4)) (xs (i + 5))
  rw [← e1] at q
  exact l_end C q e2 w kk dL_law_549 (by decide)
set_option maxRecDepth 100000 in
theorem l_k10 (C : l_C p c m meth s D r b L xs) (w : mm_W D s.heap.size r M s H locs) (hl : l_L ls r b i) (hi : i + 6 ≤ L) (hp : pubR M ts rs) (hf : cells ≤ room_1.cells ∧ slots ≤ room_1.slots) (kk : l_K p l e s m below meth c cells slots Q D r b ls) : W p l e room_1 s m #[Value.ref b] below meth c H locs cells slots Q (F0 m 554 ls []) := by
  refine lv_aload_n C.1.1 C.1.2.1 dL_law_554 rfl (lv_at hl 2 rfl) ?_
  refine l_ld C w hl (k := 1) (by omega) rfl dL_law_555 dL_law_556 dL_law_557 dL_law_558 dL_law_559 ?_
  refine l_ld C w hl (k := 2) (by omega) rfl dL_law_560 dL_law_561 dL_law_562 dL_law_563 dL_law_564 ?_
  refine l_nz C dL_law_565 dL_law_568 dL_law_569 dL_law_572 ?_
  refine l_ld C w hl (k := 3) (by omega) rfl dL_law_573 dL_law_574 dL_law_575 dL_law_576 dL_law_577 ?_
  refine l_ld C w hl (k := 4) (by omega) rfl dL_law_578 dL_law_579 dL_law_580 dL_law_581 dL_law_582 ?_
  refine l_ld C w hl (k := 5) (by omega) rfl dL_law_583 dL_law_584 dL_law_585 dL_law_586 dL_law_587 ?_
  refine m_cvi C.1 w hl cvL_63 (k := 0) (by decide) rfl (q := (RX11, TX11, 7)) rfl rfl (As := [.int (xs (i + 1)), .int (if xs (i + 2) = 0 then 0 else 1), .int (xs (i + 3)), .int (xs (i + 4)), .int (xs (i + 5))]) (rest := []) (c_X11_start l D _ r M (xs (i + 1)) (if xs (i + 2) = 0 then 0 else 1) (xs (i + 3)) (xs (i + 4)) (xs (i + 5)) ts hp.1.1 hp.2.1.1 l_bit) rfl rfl (Nat.le_of_ble_eq_true rfl) ⟨(Nat.le_of_ble_eq_true rfl), (Nat.le_of_ble_eq_true rfl)⟩ hf dL_law_588 (fun a1 M1 H locs e1 w => ?_)
  have e1 : (a1, M1) = f_X11_start (xs (i + 1)) (if xs (i + 2) = 0 then 0 else 1) (xs (i + 3)) (xs (i + 4)) (xs (i + 5)) ts M := e1
  have g1 : M1.1 117 = M.1 117 := (congrArg (fun z => z.2.1 117) e1).trans (b_start hp (xs (i + 1)) (if xs (i + 2) = 0 then 0 else 1) (xs (i + 3)) (xs (i + 4)) (xs (i + 5)))
  refine lv_aload_n C.1.1 C.1.2.1 dL_law_591 rfl (lv_at hl 1 rfl) ?_
  refine l_ld C w hl (k := 1) (by omega) rfl dL_law_592 dL_law_593 dL_law_594 dL_law_595 dL_law_596 ?_
  refine l_ld C w hl (k := 2) (by omega) rfl dL_law_597 dL_law_598 dL_law_599 dL_law_600 dL_law_601 ?_
  refine l_nz C dL_law_602 dL_law_605 dL_law_606 dL_law_609 ?_
  refine l_ld C w hl (k := 3) (by omega) rfl dL_law_610 dL_law_611 dL_law_612 dL_law_613 dL_law_614 ?_
  refine l_ld C w hl (k := 4) (by omega) rfl dL_law_615 dL_law_616 dL_law_617 dL_law_618 dL_law_619 ?_
  refine l_ld C w hl (k := 5) (by omega) rfl dL_law_620 dL_law_621 dL_law_622 dL_law_623 dL_law_624 ?_
  refine m_cvi C.1 w hl cvL_67 (k := 117) (by decide) rfl (q := (RX12, TX12, 58)) rfl rfl (As := [.int (xs (i + 1)), .int (if xs (i + 2) = 0 then 0 else 1), .int (xs (i + 3)), .int (xs (i + 4)), .int (xs (i + 5))]) (rest := [.int a1]) (c_X12_start_ l D _ r M1 (xs (i + 1)) (if xs (i + 2) = 0 then 0 else 1) (xs (i + 3)) (xs (i + 4)) (xs (i + 5)) ts hp.1.1 (by rw [g1]; exact hp.2.1.2.1) l_bit) rfl rfl (Nat.le_of_ble_eq_true rfl) ⟨(Nat.le_of_ble_eq_true rfl), (Nat.le_of_ble_eq_true rfl)⟩ hf dL_law_625 (fun a2 M2 H locs e2 w => ?_)
  have e2 : (a2, M2) = f_X12_start_ (xs (i + 1)) (if xs (i + 2) = 0 then 0 else 1) (xs (i + 3)) (xs (i + 4)) (xs (i + 5)) ts M1 := e2
  have q := p_start hp (xs (i + 1)) (if xs (i + 2) = 0 then 0 else 1) (xs (i + 3)) (xs (i + 4)) (xs (i + 5)) l_bit
  rw [← e1] at q
  exact l_end C q e2 w kk dL_law_628 (by decide)
set_option maxRecDepth 100000 in
theorem l_k11 (C : l_C p c m meth s D r b L xs) (w : mm_W D s.heap.size r M s H locs) (hl : l_L ls r b i) (hi : i + 6 ≤ L) (hp : pubR M ts rs) (hf : cells ≤ room_1.cells ∧ slots ≤ room_1.slots) (kk : l_K p l e s m below meth c cells slots Q D r b ls) : W p l e room_1 s m #[Value.ref b] below meth c H locs cells slots Q (F0 m 633 ls []) := by
  refine lv_aload_n C.1.1 C.1.2.1 dL_law_633 rfl (lv_at hl 2 rfl) ?_
  refine l_ld C w hl (k := 1) (by omega) rfl dL_law_634 dL_law_635 dL_law_636 dL_law_637 dL_law_638 ?_
  refine l_ld C w hl (k := 2) (by omega) rfl dL_law_639 dL_law_640 dL_law_641 dL_law_642 dL_law_643 ?_
  refine m_cvi C.1 w hl cvL_68 (k := 0) (by decide) rfl (q := (RX11, TX11, 7)) rfl rfl (As := [.int (xs (i + 1)), .int (xs (i + 2))]) (rest := []) (c_X11_write l D _ r M (xs (i + 1)) (xs (i + 2)) ts hp.1.1 hp.2.1.1 (pub_I hp)) rfl rfl (Nat.le_of_ble_eq_true rfl) ⟨(Nat.le_of_ble_eq_true rfl), (Nat.le_of_ble_eq_true rfl)⟩ hf dL_law_644 (fun a1 M1 H locs e1 w => ?_)
  have e1 : (a1, M1) = f_X11_write (xs (i + 1)) (xs (i + 2)) ts M := e1
  have g1 : M1.1 117 = M.1 117 := (congrArg (fun z => z.2.1 117) e1).trans (b_write hp (xs (i + 1)) (xs (i + 2)))
  refine lv_aload_n C.1.1 C.1.2.1 dL_law_647 rfl (lv_at hl 1 rfl) ?_
  refine l_ld C w hl (k := 1) (by omega) rfl dL_law_648 dL_law_649 dL_law_650 dL_law_651 dL_law_652 ?_
  refine l_ld C w hl (k := 2) (by omega) rfl dL_law_653 dL_law_654 dL_law_655 dL_law_656 dL_law_657 ?_
  refine m_cvi C.1 w hl cvL_71 (k := 117) (by decide) rfl (q := (RX12, TX12, 58)) rfl rfl (As := [.int (xs (i + 1)), .int (xs (i + 2))]) (rest := [.int a1]) (c_X12_write l D _ r M1 (xs (i + 1)) (xs (i + 2)) ts hp.1.1 (by rw [g1]; exact hp.2.1.2.1)) rfl rfl (Nat.le_of_ble_eq_true rfl) ⟨(Nat.le_of_ble_eq_true rfl), (Nat.le_of_ble_eq_true rfl)⟩ hf dL_law_658 (fun a2 M2 H locs e2 w => ?_)
  have e2 : (a2, M2) = f_X12_write (xs (i + 1)) (xs (i + 2)) ts M1 := e2
  have q := p_write hp (xs (i + 1)) (xs (i + 2))
  rw [← e1] at q
  exact l_end C q e2 w kk dL_law_661 (by decide)
set_option maxRecDepth 100000 in
theorem l_k12 (C : l_C p c m meth s D r b L xs) (w : mm_W D s.heap.size r M s H locs) (hl : l_L ls r b i) (hi : i + 6 ≤ L) (hp : pubR M ts rs) (hf : cells ≤ room_1.cells ∧ slots ≤ room_1.slots) (kk : l_K p l e s m below meth c cells slots Q D r b ls) : W p l e room_1 s m #[Value.ref b] below meth c H locs cells slots Q (F0 m 666 ls []) := by
  refine lv_aload_n C.1.1 C.1.2.1 dL_law_666 rfl (lv_at hl 2 rfl) ?_
  refine l_ld C w hl (k := 1) (by omega) rfl dL_law_667 dL_law_668 dL_law_669 dL_law_670 dL_law_671 ?_
  refine l_ld C w hl (k := 2) (by omega) rfl dL_law_672 dL_law_673 dL_law_674 dL_law_675 dL_law_676 ?_
  refine m_cvi C.1 w hl cvL_72 (k := 0) (by decide) rfl (q := (RX11, TX11, 7)) rfl rfl (As := [.int (xs (i + 1)), .int (xs (i + 2))]) (rest := []) (c_X11_read l D _ r M (xs (i + 1)) (xs (i + 2)) ts hp.1.1 hp.2.1.1 (pub_I hp) (pub_K hp)) rfl rfl (Nat.le_of_ble_eq_true rfl) ⟨(Nat.le_of_ble_eq_true rfl), (Nat.le_of_ble_eq_true rfl)⟩ hf dL_law_677 (fun a1 M1 H locs e1 w => ?_)
  have e1 : (a1, M1) = f_X11_read (xs (i + 1)) (xs (i + 2)) ts M := e1
  have g1 : M1.1 117 = M.1 117 := (congrArg (fun z => z.2.1 117) e1).trans (b_read hp (xs (i + 1)) (xs (i + 2)))
  refine lv_aload_n C.1.1 C.1.2.1 dL_law_680 rfl (lv_at hl 1 rfl) ?_
  refine l_ld C w hl (k := 1) (by omega) rfl dL_law_681 dL_law_682 dL_law_683 dL_law_684 dL_law_685 ?_
  refine l_ld C w hl (k := 2) (by omega) rfl dL_law_686 dL_law_687 dL_law_688 dL_law_689 dL_law_690 ?_
  refine m_cvi C.1 w hl cvL_75 (k := 117) (by decide) rfl (q := (RX12, TX12, 58)) rfl rfl (As := [.int (xs (i + 1)), .int (xs (i + 2))]) (rest := [.int a1]) (c_X12_read l D _ r M1 (xs (i + 1)) (xs (i + 2)) ts hp.1.1 (by rw [g1]; exact hp.2.1.2.1)) rfl rfl (Nat.le_of_ble_eq_true rfl) ⟨(Nat.le_of_ble_eq_true rfl), (Nat.le_of_ble_eq_true rfl)⟩ hf dL_law_691 (fun a2 M2 H locs e2 w => ?_)
  have e2 : (a2, M2) = f_X12_read (xs (i + 1)) (xs (i + 2)) ts M1 := e2
  have q := p_read hp (xs (i + 1)) (xs (i + 2))
  rw [← e1] at q
  exact l_end C q e2 w kk dL_law_694 (by decide)
set_option maxRecDepth 100000 in
theorem l_k13 (C : l_C p c m meth s D r b L xs) (w : mm_W D s.heap.size r M s H locs) (hl : l_L ls r b i) (hi : i + 6 ≤ L) (hp : pubR M ts rs) (hf : cells ≤ room_1.cells ∧ slots ≤ room_1.slots) (kk : l_K p l e s m below meth c cells slots Q D r b ls) : W p l e room_1 s m #[Value.ref b] below meth c H locs cells slots Q (F0 m 699 ls []) := by
  refine lv_aload_n C.1.1 C.1.2.1 dL_law_699 rfl (lv_at hl 2 rfl) ?_
  refine l_ld C w hl (k := 1) (by omega) rfl dL_law_700 dL_law_701 dL_law_702 dL_law_703 dL_law_704 ?_
  refine l_ld C w hl (k := 2) (by omega) rfl dL_law_705 dL_law_706 dL_law_707 dL_law_708 dL_law_709 ?_
  refine m_cvi C.1 w hl cvL_76 (k := 0) (by decide) rfl (q := (RX11, TX11, 7)) rfl rfl (As := [.int (xs (i + 1)), .int (xs (i + 2))]) (rest := []) (c_X11_send l D _ r M (xs (i + 1)) (xs (i + 2)) ts hp.1.1 hp.2.1.1) rfl rfl (Nat.le_of_ble_eq_true rfl) ⟨(Nat.le_of_ble_eq_true rfl), (Nat.le_of_ble_eq_true rfl)⟩ hf dL_law_710 (fun a1 M1 H locs e1 w => ?_)
  have e1 : (a1, M1) = f_X11_send (xs (i + 1)) (xs (i + 2)) ts M := e1
  have g1 : M1.1 117 = M.1 117 := (congrArg (fun z => z.2.1 117) e1).trans (b_send hp (xs (i + 1)) (xs (i + 2)))
  refine lv_aload_n C.1.1 C.1.2.1 dL_law_713 rfl (lv_at hl 1 rfl) ?_
  refine l_ld C w hl (k := 1) (by omega) rfl dL_law_714 dL_law_715 dL_law_716 dL_law_717 dL_law_718 ?_
  refine l_ld C w hl (k := 2) (by omega) rfl dL_law_719 dL_law_720 dL_law_721 dL_law_722 dL_law_723 ?_
  refine m_cvi C.1 w hl cvL_79 (k := 117) (by decide) rfl (q := (RX12, TX12, 58)) rfl rfl (As := [.int (xs (i + 1)), .int (xs (i + 2))]) (rest := [.int a1]) (c_X12_send l D _ r M1 (xs (i + 1)) (xs (i + 2)) ts hp.1.1 (by rw [g1]; exact hp.2.1.2.1)) rfl rfl (Nat.le_of_ble_eq_true rfl) ⟨(Nat.le_of_ble_eq_true rfl), (Nat.le_of_ble_eq_true rfl)⟩ hf dL_law_724 (fun a2 M2 H locs e2 w => ?_)
  have e2 : (a2, M2) = f_X12_send (xs (i + 1)) (xs (i + 2)) ts M1 := e2
  have q := p_send hp (xs (i + 1)) (xs (i + 2))
  rw [← e1] at q
  exact l_end C q e2 w kk dL_law_727 (by decide)
set_option maxRecDepth 100000 in
theorem l_k14 (C : l_C p c m meth s D r b L xs) (w : mm_W D s.heap.size r M s H locs) (hl : l_L ls r b i) (hi : i + 6 ≤ L) (hp : pubR M ts rs) (hf : cells ≤ room_1.cells ∧ slots ≤ room_1.slots) (kk : l_K p l e s m below meth c cells slots Q D r b ls) : W p l e room_1 s m #[Value.ref b] below meth c H locs cells slots Q (F0 m 732 ls []) := by
  refine lv_aload_n C.1.1 C.1.2.1 dL_law_732 rfl (lv_at hl 2 rfl) ?_
  refine l_ld C w hl (k := 1) (by omega) rfl dL_law_733 dL_law_734 dL_law_735 dL_law_736 dL_law_737 ?_
  refine l_ld C w hl (k := 2) (by omega) rfl dL_law_738 dL_law_739 dL_law_740 dL_law_741 dL_law_742 ?_
  refine m_cvi C.1 w hl cvL_80 (k := 0) (by decide) rfl (q := (RX11, TX11, 7)) rfl rfl (As := [.int (xs (i + 1)), .int (xs (i + 2))]) (rest := []) (c_X11_receive l D _ r M (xs (i + 1)) (xs (i + 2)) ts hp.1.1 hp.2.1.1) rfl rfl (Nat.le_of_ble_eq_true rfl) ⟨(Nat.le_of_ble_eq_true rfl), (Nat.le_of_ble_eq_true rfl)⟩ hf dL_law_743 (fun a1 M1 H locs e1 w => ?_)
  have e1 : (a1, M1) = f_X11_receive (xs (i + 1)) (xs (i + 2)) ts M := e1
  have g1 : M1.1 117 = M.1 117 := (congrArg (fun z => z.2.1 117) e1).trans (b_receive hp (xs (i + 1)) (xs (i + 2)))
  refine lv_aload_n C.1.1 C.1.2.1 dL_law_746 rfl (lv_at hl 1 rfl) ?_
  refine l_ld C w hl (k := 1) (by omega) rfl dL_law_747 dL_law_748 dL_law_749 dL_law_750 dL_law_751 ?_
  refine l_ld C w hl (k := 2) (by omega) rfl dL_law_752 dL_law_753 dL_law_754 dL_law_755 dL_law_756 ?_
  refine m_cvi C.1 w hl cvL_83 (k := 117) (by decide) rfl (q := (RX12, TX12, 58)) rfl rfl (As := [.int (xs (i + 1)), .int (xs (i + 2))]) (rest := [.int a1]) (c_X12_receive l D _ r M1 (xs (i + 1)) (xs (i + 2)) ts hp.1.1 (by rw [g1]; exact hp.2.1.2.1)) rfl rfl (Nat.le_of_ble_eq_true rfl) ⟨(Nat.le_of_ble_eq_true rfl), (Nat.le_of_ble_eq_true rfl)⟩ hf dL_law_757 (fun a2 M2 H locs e2 w => ?_)
  have e2 : (a2, M2) = f_X12_receive (xs (i + 1)) (xs (i + 2)) ts M1 := e2
  have q := p_receive hp (xs (i + 1)) (xs (i + 2))
  rw [← e1] at q
  exact l_end C q e2 w kk dL_law_760 (by decide)
set_option maxRecDepth 100000 in
theorem l_k15 (C : l_C p c m meth s D r b L xs) (w : mm_W D s.heap.size r M s H locs) (hl : l_L ls r b i) (hi : i + 6 ≤ L) (hp : pubR M ts rs) (hf : cells ≤ room_1.cells ∧ slots ≤ room_1.slots) (kk : l_K p l e s m below meth c cells slots Q D r b ls) : W p l e room_1 s m #[Value.ref b] below meth c H locs cells slots Q (F0 m 765 ls []) := by
  refine lv_aload_n C.1.1 C.1.2.1 dL_law_765 rfl (lv_at hl 2 rfl) ?_
  refine l_ld C w hl (k := 1) (by omega) rfl dL_law_766 dL_law_767 dL_law_768 dL_law_769 dL_law_770 ?_
  refine l_ld C w hl (k := 2) (by omega) rfl dL_law_771 dL_law_772 dL_law_773 dL_law_774 dL_law_775 ?_
  refine l_nz C dL_law_776 dL_law_779 dL_law_780 dL_law_783 ?_
  refine m_cvi C.1 w hl cvL_84 (k := 0) (by decide) rfl (q := (RX11, TX11, 7)) rfl rfl (As := [.int (xs (i + 1)), .int (if xs (i + 2) = 0 then 0 else 1)]) (rest := []) (c_X11_rekey l D _ r M (xs (i + 1)) (if xs (i + 2) = 0 then 0 else 1)) rfl rfl (Nat.le_of_ble_eq_true rfl) ⟨(Nat.le_of_ble_eq_true rfl), (Nat.le_of_ble_eq_true rfl)⟩ hf dL_law_784 (fun a1 M1 H locs e1 w => ?_)
  have e1 : (a1, M1) = f_X11_rekey (xs (i + 1)) (if xs (i + 2) = 0 then 0 else 1) M := e1
  refine lv_aload_n C.1.1 C.1.2.1 dL_law_787 rfl (lv_at hl 1 rfl) ?_
  refine l_ld C w hl (k := 1) (by omega) rfl dL_law_788 dL_law_789 dL_law_790 dL_law_791 dL_law_792 ?_
  refine l_ld C w hl (k := 2) (by omega) rfl dL_law_793 dL_law_794 dL_law_795 dL_law_796 dL_law_797 ?_
  refine l_nz C dL_law_798 dL_law_801 dL_law_802 dL_law_805 ?_
  refine m_cvi C.1 w hl cvL_88 (k := 117) (by decide) rfl (q := (RX12, TX12, 58)) rfl rfl (As := [.int (xs (i + 1)), .int (if xs (i + 2) = 0 then 0 else 1)]) (rest := [.int a1]) (c_X12_rekey l D _ r M1 (xs (i + 1)) (if xs (i + 2) = 0 then 0 else 1)) rfl rfl (Nat.le_of_ble_eq_true rfl) ⟨(Nat.le_of_ble_eq_true rfl), (Nat.le_of_ble_eq_true rfl)⟩ hf dL_law_806 (fun a2 M2 H locs e2 w => ?_)
  have e2 : (a2, M2) = f_X12_rekey (xs (i + 1)) (if xs (i + 2) = 0 then 0 else 1) M1 := e2
  have q := p_rekey hp (xs (i + 1)) (if xs (i + 2) = 0 then 0 else 1) l_bit
  rw [← e1] at q
  exact l_end C q e2 w kk dL_law_809 (by decide)
set_option maxRecDepth 100000 in
theorem l_k16 (C : l_C p c m meth s D r b L xs) (w : mm_W D s.heap.size r M s H locs) (hl : l_L ls r b i) (hi : i + 6 ≤ L) (hp : pubR M ts rs) (hf : cells ≤ room_1.cells ∧ slots ≤ room_1.slots) (kk : l_K p l e s m below meth c cells slots Q D r b ls) : W p l e room_1 s m #[Value.ref b] below meth c H locs cells slots Q (F0 m 814 ls []) := by
  refine lv_aload_n C.1.1 C.1.2.1 dL_law_814 rfl (lv_at hl 2 rfl) ?_
  refine l_ld C w hl (k := 1) (by omega) rfl dL_law_815 dL_law_816 dL_law_817 dL_law_818 dL_law_819 ?_
  refine l_ld C w hl (k := 2) (by omega) rfl dL_law_820 dL_law_821 dL_law_822 dL_law_823 dL_law_824 ?_
  refine m_cvi C.1 w hl cvL_89 (k := 0) (by decide) rfl (q := (RX11, TX11, 7)) rfl rfl (As := [.int (xs (i + 1)), .int (xs (i + 2))]) (rest := []) (c_X11_state l D _ r M (xs (i + 1)) (xs (i + 2))) rfl rfl (Nat.le_of_ble_eq_true rfl) ⟨(Nat.le_of_ble_eq_true rfl), (Nat.le_of_ble_eq_true rfl)⟩ hf dL_law_825 (fun a1 M1 H locs e1 w => ?_)
  obtain ⟨e1, z1⟩ : a1 = f_X11_state (xs (i + 1)) (xs (i + 2)) M ∧ M1 = M := e1
  rw [z1] at w
  refine lv_aload_n C.1.1 C.1.2.1 dL_law_828 rfl (lv_at hl 1 rfl) ?_
  refine l_ld C w hl (k := 1) (by omega) rfl dL_law_829 dL_law_830 dL_law_831 dL_law_832 dL_law_833 ?_
  refine l_ld C w hl (k := 2) (by omega) rfl dL_law_834 dL_law_835 dL_law_836 dL_law_837 dL_law_838 ?_
  refine m_cvi C.1 w hl cvL_92 (k := 117) (by decide) rfl (q := (RX12, TX12, 58)) rfl rfl (As := [.int (xs (i + 1)), .int (xs (i + 2))]) (rest := [.int a1]) (c_X12_state l D _ r M (xs (i + 1)) (xs (i + 2))) rfl rfl (Nat.le_of_ble_eq_true rfl) ⟨(Nat.le_of_ble_eq_true rfl), (Nat.le_of_ble_eq_true rfl)⟩ hf dL_law_839 (fun a2 M2 H locs e2 w => ?_)
  obtain ⟨e2, z2⟩ : a2 = f_X12_state (xs (i + 1)) (xs (i + 2)) M ∧ M2 = M := e2
  rw [z2] at w
  exact l_same C (by rw [e1, e2]; exact p_state hp (xs (i + 1)) (xs (i + 2))) hp w kk dL_law_842 (by decide)
set_option maxRecDepth 100000 in
theorem l_k17 (C : l_C p c m meth s D r b L xs) (w : mm_W D s.heap.size r M s H locs) (hl : l_L ls r b i) (hi : i + 6 ≤ L) (hp : pubR M ts rs) (hf : cells ≤ room_1.cells ∧ slots ≤ room_1.slots) (kk : l_K p l e s m below meth c cells slots Q D r b ls) : W p l e room_1 s m #[Value.ref b] below meth c H locs cells slots Q (F0 m 847 ls []) := by
  refine lv_aload_n C.1.1 C.1.2.1 dL_law_847 rfl (lv_at hl 2 rfl) ?_
  refine l_ld C w hl (k := 1) (by omega) rfl dL_law_848 dL_law_849 dL_law_850 dL_law_851 dL_law_852 ?_
  refine l_ld C w hl (k := 2) (by omega) rfl dL_law_853 dL_law_854 dL_law_855 dL_law_856 dL_law_857 ?_
  refine l_ld C w hl (k := 3) (by omega) rfl dL_law_858 dL_law_859 dL_law_860 dL_law_861 dL_law_862 ?_
  refine m_cvi C.1 w hl cvL_93 (k := 0) (by decide) rfl (q := (RX11, TX11, 7)) rfl rfl (As := [.int (xs (i + 1)), .int (xs (i + 2)), .int (xs (i + 3))]) (rest := []) (c_X11_told l D _ r M (xs (i + 1)) (xs (i + 2)) (xs (i + 3))) rfl rfl (Nat.le_of_ble_eq_true rfl) ⟨(Nat.le_of_ble_eq_true rfl), (Nat.le_of_ble_eq_true rfl)⟩ hf dL_law_863 (fun a1 M1 H locs e1 w => ?_)
  obtain ⟨e1, z1⟩ : a1 = f_X11_told (xs (i + 1)) (xs (i + 2)) (xs (i + 3)) M ∧ M1 = M := e1
  rw [z1] at w
  refine lv_aload_n C.1.1 C.1.2.1 dL_law_866 rfl (lv_at hl 1 rfl) ?_
  refine l_ld C w hl (k := 1) (by omega) rfl dL_law_867 dL_law_868 dL_law_869 dL_law_870 dL_law_871 ?_
  refine l_ld C w hl (k := 2) (by omega) rfl dL_law_872 dL_law_873 dL_law_874 dL_law_875 dL_law_876 ?_
  refine l_ld C w hl (k := 3) (by omega) rfl dL_law_877 dL_law_878 dL_law_879 dL_law_880 dL_law_881 ?_
  refine m_cvi C.1 w hl cvL_97 (k := 117) (by decide) rfl (q := (RX12, TX12, 58)) rfl rfl (As := [.int (xs (i + 1)), .int (xs (i + 2)), .int (xs (i + 3))]) (rest := [.int a1]) (c_X12_told l D _ r M (xs (i + 1)) (xs (i + 2)) (xs (i + 3))) rfl rfl (Nat.le_of_ble_eq_true rfl) ⟨(Nat.le_of_ble_eq_true rfl), (Nat.le_of_ble_eq_true rfl)⟩ hf dL_law_882 (fun a2 M2 H locs e2 w => ?_)
  obtain ⟨e2, z2⟩ : a2 = f_X12_told (xs (i + 1)) (xs (i + 2)) (xs (i + 3)) M ∧ M2 = M := e2
  rw [z2] at w
  exact l_same C (by rw [e1, e2]; exact p_told hp (xs (i + 1)) (xs (i + 2)) (xs (i + 3))) hp w kk dL_law_885 (by decide)
set_option maxRecDepth 100000 in
theorem l_k18 (C : l_C p c m meth s D r b L xs) (w : mm_W D s.heap.size r M s H locs) (hl : l_L ls r b i) (hi : i + 6 ≤ L) (hp : pubR M ts rs) (hf : cells ≤ room_1.cells ∧ slots ≤ room_1.slots) (kk : l_K p l e s m below meth c cells slots Q D r b ls) : W p l e room_1 s m #[Value.ref b] below meth c H locs cells slots Q (F0 m 890 ls []) := by
  refine lv_aload_n C.1.1 C.1.2.1 dL_law_890 rfl (lv_at hl 2 rfl) ?_
  refine l_ld C w hl (k := 1) (by omega) rfl dL_law_891 dL_law_892 dL_law_893 dL_law_894 dL_law_895 ?_
  refine m_cvi C.1 w hl cvL_98 (k := 0) (by decide) rfl (q := (RX11, TX11, 7)) rfl rfl (As := [.int (xs (i + 1))]) (rest := []) (c_X11_out l D _ r M (xs (i + 1)) rs hp.1.2 hp.2.1.2.2.1) rfl rfl (Nat.le_of_ble_eq_true rfl) ⟨(Nat.le_of_ble_eq_true rfl), (Nat.le_of_ble_eq_true rfl)⟩ hf dL_law_896 (fun a1 M1 H locs e1 w => ?_)
  obtain ⟨e1, z1⟩ : a1 = f_X11_out (xs (i + 1)) rs M ∧ M1 = M := e1
  rw [z1] at w
  refine lv_aload_n C.1.1 C.1.2.1 dL_law_899 rfl (lv_at hl 1 rfl) ?_
  refine l_ld C w hl (k := 1) (by omega) rfl dL_law_900 dL_law_901 dL_law_902 dL_law_903 dL_law_904 ?_
  refine m_cvi C.1 w hl cvL_101 (k := 117) (by decide) rfl (q := (RX12, TX12, 58)) rfl rfl (As := [.int (xs (i + 1))]) (rest := [.int a1]) (c_X12_out l D _ r M (xs (i + 1)) rs hp.1.2 hp.2.1.2.2.2) rfl rfl (Nat.le_of_ble_eq_true rfl) ⟨(Nat.le_of_ble_eq_true rfl), (Nat.le_of_ble_eq_true rfl)⟩ hf dL_law_905 (fun a2 M2 H locs e2 w => ?_)
  obtain ⟨e2, z2⟩ : a2 = f_X12_out (xs (i + 1)) rs M ∧ M2 = M := e2
  rw [z2] at w
  exact l_same C (by rw [e1, e2]; exact p_out hp (xs (i + 1))) hp w kk dL_law_908 (by decide)
set_option maxRecDepth 100000 in
theorem l_k19 (C : l_C p c m meth s D r b L xs) (w : mm_W D s.heap.size r M s H locs) (hl : l_L ls r b i) (hi : i + 6 ≤ L) (hp : pubR M ts rs) (hf : cells ≤ room_1.cells ∧ slots ≤ room_1.slots) (kk : l_K p l e s m below meth c cells slots Q D r b ls) : W p l e room_1 s m #[Value.ref b] below meth c H locs cells slots Q (F0 m 913 ls []) := by
  refine lv_aload_n C.1.1 C.1.2.1 dL_law_913 rfl (lv_at hl 2 rfl) ?_
  refine l_ld C w hl (k := 1) (by omega) rfl dL_law_914 dL_law_915 dL_law_916 dL_law_917 dL_law_918 ?_
  refine m_cvi C.1 w hl cvL_102 (k := 0) (by decide) rfl (q := (RX11, TX11, 7)) rfl rfl (As := [.int (xs (i + 1))]) (rest := []) (c_X11_count l D _ r M (xs (i + 1))) rfl rfl (Nat.le_of_ble_eq_true rfl) ⟨(Nat.le_of_ble_eq_true rfl), (Nat.le_of_ble_eq_true rfl)⟩ hf dL_law_919 (fun a1 M1 H locs e1 w => ?_)
  obtain ⟨e1, z1⟩ : a1 = f_X11_count (xs (i + 1)) M ∧ M1 = M := e1
  rw [z1] at w
  refine lv_aload_n C.1.1 C.1.2.1 dL_law_922 rfl (lv_at hl 1 rfl) ?_
  refine l_ld C w hl (k := 1) (by omega) rfl dL_law_923 dL_law_924 dL_law_925 dL_law_926 dL_law_927 ?_
  refine m_cvi C.1 w hl cvL_105 (k := 117) (by decide) rfl (q := (RX12, TX12, 58)) rfl rfl (As := [.int (xs (i + 1))]) (rest := [.int a1]) (c_X12_count l D _ r M (xs (i + 1))) rfl rfl (Nat.le_of_ble_eq_true rfl) ⟨(Nat.le_of_ble_eq_true rfl), (Nat.le_of_ble_eq_true rfl)⟩ hf dL_law_928 (fun a2 M2 H locs e2 w => ?_)
  obtain ⟨e2, z2⟩ : a2 = f_X12_count (xs (i + 1)) M ∧ M2 = M := e2
  rw [z2] at w
  exact l_same C (by rw [e1, e2]; exact p_count hp (xs (i + 1))) hp w kk dL_law_931 (by decide)
end LW

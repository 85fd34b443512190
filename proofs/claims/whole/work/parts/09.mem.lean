section ML
variable {D : va_G} {b0 : Nat} {r : Nat → Nat} {M : mm_M} {s : State} {H H1 : Heap} {locs : List Loc}
theorem mm_v_ne {k k' j' : Nat} {x : Int32} (h : k ≠ k') (j d : Nat) : mm_v r (mm_w M k' j' x) k j d = mm_v r M k j d := by
  unfold mm_v; split <;> simp [mm_w, h]
theorem mm_v_nel {k k' j' : Nat} {x : Int64} (h : k ≠ k') (j d : Nat) : mm_v r (mm_wl M k' j' x) k j d = mm_v r M k j d := by
  unfold mm_v; split <;> simp [mm_wl, h]
theorem mm_v_to {M' : mm_M} {k : Nat} (h1 : M'.1 k = M.1 k) (h2 : M'.2 k = M.2 k) (j d : Nat) : mm_v r M' k j d = mm_v r M k j d := by
  unfold mm_v; split <;> simp [h1, h2]
theorem mm_av_to {M' : mm_M} {k : Nat} (ty : FieldType) (h1 : M'.1 k = M.1 k) (h2 : M'.2 k = M.2 k) : mm_av ty r M' k = mm_av ty r M k := by
  funext j
  unfold mm_av; split <;> first | exact mm_v_to h1 h2 j _ | simp [h1, h2]
theorem mm_ok_to {M' : mm_M} {k : Nat} (ty : FieldType) (n : Nat) (h1 : M'.1 k = M.1 k) (h : mm_ok ty M k n) : mm_ok ty M' k n := by
  unfold mm_ok at h ⊢
  split <;> simp_all
/-- a cell that is neither written nor has other numbers -/
theorem mm_at.to {M' : mm_M} {k : Nat} (h : mm_at D r M s H k) (hq : H1[r k]? = H[r k]?) (h1 : M'.1 k = M.1 k) (h2 : M'.2 k = M.2 k) : mm_at D r M' s H1 k := by
  unfold mm_at at h ⊢
  split at h
  · rename_i ty n wr _
    unfold mm_ar at h ⊢
    rw [mm_av_to ty h1 h2, hq]
    exact ⟨h.1, mm_ok_to ty n h1 h.2.1, by rw [h1]; exact h.2.2⟩
  · obtain ⟨q, hc, ho, hf⟩ := h
    exact ⟨q, hc, (ho.kept hq).to (fun j _ => (mm_v_to h1 h2 j _).symm), by unfold mm_okf; rw [h1]; exact hf⟩
theorem mm_S_put {a k : Nat} (h : va_S (fun q => b0 ≤ q) s.heap H locs) (z : H1.size = H.size) (oq : ∀ q : Nat, q ≠ a → H1[q]? = H[q]?) (ha : b0 ≤ a) : va_S (fun q => b0 ≤ q) s.heap H1 (locs ++ [⟨a, k⟩]) := h.put z oq ha
/-- an array's cell, as a load wants it -/
theorem mm_G.arr {k : Nat} {ty : FieldType} {n : Nat} {wr : Bool} (g : mm_G D r M s H) (hk : k < 181) (hs : mm_sh k = .inl (ty, n, wr)) : mm_ar r M s H k ty n wr := by
  have h := g k hk
  unfold mm_at at h
  rw [hs] at h
  exact h
theorem mm_G.byte {k j : Nat} {n : Nat} {wr : Bool} (g : mm_G D r M s H) (hk : k < 181) (hs : mm_sh k = .inl (.byte, n, wr)) (hj : j < n) : (M.1 k j).toInt8.toInt32 = M.1 k j := (g.arr hk hs).2.1 j hj
theorem mm_G.bool {k j : Nat} {n : Nat} {wr : Bool} (g : mm_G D r M s H) (hk : k < 181) (hs : mm_sh k = .inl (.boolean, n, wr)) (hj : j < n) : M.1 k j = 0 ∨ M.1 k j = 1 := (g.arr hk hs).2.1 j hj
theorem mm_G.tab {k j : Nat} {n : Nat} {ty : FieldType} (g : mm_G D r M s H) (hk : k < 181) (hs : mm_sh k = .inl (ty, n, false)) (hj : j < n) : M.1 k j = mm_tab k j := (g.arr hk hs).2.2 rfl j hj
theorem mm_G.set {M' : mm_M} {k : Nat} (hR : mm_R b0 r) (g : mm_G D r M s H) (hk : k < 173) (h0 : mm_at D r M' s H1 k) (oq : ∀ q : Nat, q ≠ r k → H1[q]? = H[q]?) (h1 : ∀ a, a ≠ k → M'.1 a = M.1 a ∧ M'.2 a = M.2 a) : mm_G D r M' s H1 := by
  intro a ha
  by_cases e : a = k
  · subst e; exact h0
  · exact (g a ha).to (oq _ (hR.ne ha hk e)) (h1 a e).1 (h1 a e).2
theorem mm_ar.store {k n i : Nat} {ty : FieldType} {x : Value} {cell : Cell} (h : mm_ar r M s H k ty n true) (hc : H[r k]? = some cell) (M' : mm_M) (he : H1[r k]? = some (cell.setSlot i x)) (hv : mm_av ty r M' k = updV (mm_av ty r M k) i x) (hok : mm_ok ty M' k n) : mm_ar r M' s H1 k ty n true := by
  obtain ⟨⟨cell', h1, h2, h3, h4, h5, h6, h7⟩, h8⟩ := h
  obtain ⟨cA, hA, rfl⟩ := h7 rfl
  have : arrV cA n (mm_av ty r M k) = cell := Option.some.inj (h1.symm.trans hc)
  subst this
  rw [arrV_store, ← hv] at he
  refine ⟨⟨_, he, hA n _, (fun q => by cases q), ?_, ?_, ?_, fun _ => ⟨cA, hA, rfl⟩⟩, hok, fun q => by cases q⟩
  · rw [arrV_size]; exact Nat.le_refl _
  · rw [arrV_size]
  · intro j hj; exact arrV_read _ _ hj
theorem mm_at.ar {k n : Nat} {ty : FieldType} {wr : Bool} (hs : mm_sh k = .inl (ty, n, wr)) (h : mm_ar r M s H k ty n wr) : mm_at D r M s H k := by
  unfold mm_at
  rw [hs]
  exact h
theorem mm_in_nI {i n : Nat} {cell : Cell} (hi : i < n) (hn : n < 2 ^ 31) (h4 : n ≤ cell.slots.size) : ¬ (nI i < 0 ∨ cell.slots.size ≤ (nI i).toNatClampNeg) := by
  rw [nI_clamp (by omega)]
  rintro (h | h)
  · exact nI_pos (by omega) h
  · omega
end ML
section MR2
variable {p : Program} {l : Launch} {e : Env} {R : Room} {s : State} {m : MethodId} {args : Array Value} {below : List Frame} {meth : Method} {c : Code} {H : Heap} {locs : List Loc} {cells slots : Nat} {Q : State → Prop}
variable {cc : ByteArray} {nL pc : Nat} {own : String} {ret : Option FieldType} {ls : Array Slot} {rest : List Value} {D : va_G} {b0 : Nat} {r : Nat → Nat} {M : mm_M}
theorem m_bald (C : mm_C p c cc nL own m meth ret s args D b0 r) (w : mm_W D b0 r M s H locs) {k i n : Nat} {wr : Bool} (hk : k < 181) (hs : mm_sh k = .inl (.byte, n, wr)) (hi : i < n) (hn : n < 2 ^ 31) (hdg : decode cc pc = .ok (.baload, 1))
    (kk : W p l e R s m args below meth c H locs cells slots Q (F0 m (pc + 1) ls (.int (M.1 k i) :: rest))) : W p l e R s m args below meth c H locs cells slots Q (F0 m pc ls (.int (nI i) :: .ref (r k) :: rest)) := by
  obtain ⟨⟨cell, h1, h2, h3, h4, h5, h6, h7⟩, h8⟩ := w.1.arr hk hs
  exact W.bald (v := .int (M.1 k i)) C.1 C.2.1 h1 h2 h3 (mm_in_nI hi hn h4) (by rw [nI_clamp (by omega)]; exact h6 i hi) rfl rfl hdg kk
theorem m_zald (C : mm_C p c cc nL own m meth ret s args D b0 r) (w : mm_W D b0 r M s H locs) {k i n : Nat} {wr : Bool} (hk : k < 181) (hs : mm_sh k = .inl (.boolean, n, wr)) (hi : i < n) (hn : n < 2 ^ 31) (hdg : decode cc pc = .ok (.baload, 1))
    (kk : W p l e R s m args below meth c H locs cells slots Q (F0 m (pc + 1) ls (.int (M.1 k i) :: rest))) : W p l e R s m args below meth c H locs cells slots Q (F0 m pc ls (.int (nI i) :: .ref (r k) :: rest)) := by
  obtain ⟨⟨cell, h1, h2, h3, h4, h5, h6, h7⟩, h8⟩ := w.1.arr hk hs
  exact W.zald (v := .int (M.1 k i)) C.1 C.2.1 h1 h2 h3 (mm_in_nI hi hn h4) (by rw [nI_clamp (by omega)]; exact h6 i hi) rfl rfl hdg kk
theorem m_iald (C : mm_C p c cc nL own m meth ret s args D b0 r) (w : mm_W D b0 r M s H locs) {k i n : Nat} {wr : Bool} (hk : k < 181) (hs : mm_sh k = .inl (.int, n, wr)) (hi : i < n) (hn : n < 2 ^ 31) (hdg : decode cc pc = .ok (.iaload, 1))
    (kk : W p l e R s m args below meth c H locs cells slots Q (F0 m (pc + 1) ls (.int (M.1 k i) :: rest))) : W p l e R s m args below meth c H locs cells slots Q (F0 m pc ls (.int (nI i) :: .ref (r k) :: rest)) := by
  obtain ⟨⟨cell, h1, h2, h3, h4, h5, h6, h7⟩, h8⟩ := w.1.arr hk hs
  exact W.iald (v := .int (M.1 k i)) C.1 C.2.1 h1 h2 h3 (mm_in_nI hi hn h4) (by rw [nI_clamp (by omega)]; exact h6 i hi) rfl rfl hdg kk
theorem m_lald (C : mm_C p c cc nL own m meth ret s args D b0 r) (w : mm_W D b0 r M s H locs) {k i n : Nat} {wr : Bool} (hk : k < 181) (hs : mm_sh k = .inl (.long, n, wr)) (hi : i < n) (hn : n < 2 ^ 31) (hdg : decode cc pc = .ok (.laload, 1))
    (kk : W p l e R s m args below meth c H locs cells slots Q (F0 m (pc + 1) ls (.long (M.2 k i) :: rest))) : W p l e R s m args below meth c H locs cells slots Q (F0 m pc ls (.int (nI i) :: .ref (r k) :: rest)) := by
  obtain ⟨⟨cell, h1, h2, h3, h4, h5, h6, h7⟩, h8⟩ := w.1.arr hk hs
  exact W.lald (v := .long (M.2 k i)) C.1 C.2.1 h1 h2 h3 (mm_in_nI hi hn h4) (by rw [nI_clamp (by omega)]; exact h6 i hi) rfl rfl hdg kk
theorem m_aald (C : mm_C p c cc nL own m meth ret s args D b0 r) (w : mm_W D b0 r M s H locs) {k i n : Nat} {wr : Bool} {ty : FieldType} (hk : k < 181) (hs : mm_sh k = .inl (ty, n, wr)) (hty : ty.isReference = true) (hi : i < n) (hn : n < 2 ^ 31) {q : Nat} (hq : mm_ds k i = q + 3) (hdg : decode cc pc = .ok (.aaload, 1))
    (kk : W p l e R s m args below meth c H locs cells slots Q (F0 m (pc + 1) ls (.ref (r q) :: rest))) : W p l e R s m args below meth c H locs cells slots Q (F0 m pc ls (.int (nI i) :: .ref (r k) :: rest)) := by
  obtain ⟨⟨cell, h1, h2, h3, h4, h5, h6, h7⟩, h8⟩ := w.1.arr hk hs
  have hv : mm_av ty r M k i = .ref (r q) := by
    unfold mm_av
    cases ty <;> first | (simp [hq, mm_v]; done) | (simp [FieldType.isReference] at hty)
  exact W.aald (v := .ref (r q)) C.1 C.2.1 h1 h2 hty h3 (mm_in_nI hi hn h4) (by rw [nI_clamp (by omega), h6 i hi, hv]) rfl rfl hdg kk
theorem m_alen (C : mm_C p c cc nL own m meth ret s args D b0 r) (w : mm_W D b0 r M s H locs) {k n : Nat} {wr : Bool} {ty : FieldType} (hk : k < 181) (hs : mm_sh k = .inl (ty, n, wr)) (hdg : decode cc pc = .ok (.arraylength, 1))
    (kk : W p l e R s m args below meth c H locs cells slots Q (F0 m (pc + 1) ls (.int (nI n) :: rest))) : W p l e R s m args below meth c H locs cells slots Q (F0 m pc ls (.ref (r k) :: rest)) := by
  obtain ⟨⟨cell, h1, h2, h3, h4, h5, h6, h7⟩, h8⟩ := w.1.arr hk hs
  exact W.alen (n := nI n) C.1 C.2.1 h1 h2 h5 rfl rfl hdg kk
theorem m_bast (C : mm_C p c cc nL own m meth ret s args D b0 r) (w : mm_W D b0 r M s H locs) {k i n : Nat} {x : Int32} (hk : k < 173) (hs : mm_sh k = .inl (.byte, n, true)) (hi : i < n) (hn : n < 2 ^ 31) (hx : x.toInt8.toInt32 = x) (hdg : decode cc pc = .ok (.bastore, 1))
    (kk : ∀ (H1 : Heap) (locs1 : List Loc), mm_W D b0 r (mm_w M k i x) s H1 locs1 → W p l e R s m args below meth c H1 locs1 cells slots Q (F0 m (pc + 1) ls rest)) : W p l e R s m args below meth c H locs cells slots Q (F0 m pc ls (.int x :: .int (nI i) :: .ref (r k) :: rest)) := by
  have ha := w.1.arr (show k < 181 by omega) hs
  obtain ⟨⟨cell, h1, h2, h3, h4, h5, h6, h7⟩, h8, -⟩ := id ha
  refine W.bast C.1 C.2.1 h1 h2 h3 (mm_in_nI hi hn h4) rfl rfl hdg fun H1 e z oq => ?_
  rw [nI_clamp (by omega), ← hx, pk_nb, hx] at e
  refine kk H1 _ ⟨w.1.set C.2.2.2.2.2.2.1 hk (mm_at.ar hs (ha.store h1 _ e ?_ ?_)) oq (fun a hn => ⟨?_, rfl⟩), w.2.put z oq (C.2.2.2.2.2.2.1.1 k hk)⟩
  · funext j; by_cases hj : j = i <;> simp [mm_av, mm_w, updV, hj]
  · intro j hj
    by_cases e : j = i
    · simp [mm_w, e, hx]
    · simp [mm_w, e]; exact h8 j hj
  · funext b; simp [mm_w, hn]
theorem m_zast (C : mm_C p c cc nL own m meth ret s args D b0 r) (w : mm_W D b0 r M s H locs) {k i n : Nat} {x : Int32} (hk : k < 173) (hs : mm_sh k = .inl (.boolean, n, true)) (hi : i < n) (hn : n < 2 ^ 31) (hx : x = 0 ∨ x = 1) (hdg : decode cc pc = .ok (.bastore, 1))
    (kk : ∀ (H1 : Heap) (locs1 : List Loc), mm_W D b0 r (mm_w M k i x) s H1 locs1 → W p l e R s m args below meth c H1 locs1 cells slots Q (F0 m (pc + 1) ls rest)) : W p l e R s m args below meth c H locs cells slots Q (F0 m pc ls (.int x :: .int (nI i) :: .ref (r k) :: rest)) := by
  have ha := w.1.arr (show k < 181 by omega) hs
  obtain ⟨⟨cell, h1, h2, h3, h4, h5, h6, h7⟩, h8, -⟩ := id ha
  have hnx : narrow .boolean (.int x) = .int x := by rcases hx with rfl | rfl <;> decide
  refine W.zast C.1 C.2.1 h1 h2 h3 (mm_in_nI hi hn h4) rfl rfl hdg fun H1 e z oq => ?_
  rw [nI_clamp (by omega), hnx] at e
  refine kk H1 _ ⟨w.1.set C.2.2.2.2.2.2.1 hk (mm_at.ar hs (ha.store h1 _ e ?_ ?_)) oq (fun a hn => ⟨?_, rfl⟩), w.2.put z oq (C.2.2.2.2.2.2.1.1 k hk)⟩
  · funext j; by_cases hj : j = i <;> simp [mm_av, mm_w, updV, hj]
  · intro j hj
    by_cases e : j = i
    · simp [mm_w, e, hx]
    · simp [mm_w, e]; exact h8 j hj
  · funext b; simp [mm_w, hn]
theorem m_iast (C : mm_C p c cc nL own m meth ret s args D b0 r) (w : mm_W D b0 r M s H locs) {k i n : Nat} {x : Int32} (hk : k < 173) (hs : mm_sh k = .inl (.int, n, true)) (hi : i < n) (hn : n < 2 ^ 31) (hdg : decode cc pc = .ok (.iastore, 1))
    (kk : ∀ (H1 : Heap) (locs1 : List Loc), mm_W D b0 r (mm_w M k i x) s H1 locs1 → W p l e R s m args below meth c H1 locs1 cells slots Q (F0 m (pc + 1) ls rest)) : W p l e R s m args below meth c H locs cells slots Q (F0 m pc ls (.int x :: .int (nI i) :: .ref (r k) :: rest)) := by
  have ha := w.1.arr (show k < 181 by omega) hs
  obtain ⟨⟨cell, h1, h2, h3, h4, h5, h6, h7⟩, h8, -⟩ := id ha
  refine W.iast C.1 C.2.1 h1 h2 h3 (mm_in_nI hi hn h4) rfl rfl hdg fun H1 e z oq => ?_
  rw [nI_clamp (by omega)] at e
  refine kk H1 _ ⟨w.1.set C.2.2.2.2.2.2.1 hk (mm_at.ar hs (ha.store h1 _ e ?_ trivial)) oq (fun a hn => ⟨?_, rfl⟩), w.2.put z oq (C.2.2.2.2.2.2.1.1 k hk)⟩
  · funext j; by_cases hj : j = i <;> simp [mm_av, mm_w, updV, hj]
  · funext b; simp [mm_w, hn]
theorem m_last (C : mm_C p c cc nL own m meth ret s args D b0 r) (w : mm_W D b0 r M s H locs) {k i n : Nat} {x : Int64} (hk : k < 173) (hs : mm_sh k = .inl (.long, n, true)) (hi : i < n) (hn : n < 2 ^ 31) (hdg : decode cc pc = .ok (.lastore, 1))
    (kk : ∀ (H1 : Heap) (locs1 : List Loc), mm_W D b0 r (mm_wl M k i x) s H1 locs1 → W p l e R s m args below meth c H1 locs1 cells slots Q (F0 m (pc + 1) ls rest)) : W p l e R s m args below meth c H locs cells slots Q (F0 m pc ls (.long x :: .int (nI i) :: .ref (r k) :: rest)) := by
  have ha := w.1.arr (show k < 181 by omega) hs
  obtain ⟨⟨cell, h1, h2, h3, h4, h5, h6, h7⟩, h8, -⟩ := id ha
  refine W.last C.1 C.2.1 h1 h2 h3 (mm_in_nI hi hn h4) rfl rfl hdg fun H1 e z oq => ?_
  rw [nI_clamp (by omega)] at e
  refine kk H1 _ ⟨w.1.set C.2.2.2.2.2.2.1 hk (mm_at.ar hs (ha.store h1 _ e ?_ trivial)) oq (fun a hn => ⟨rfl, ?_⟩), w.2.put z oq (C.2.2.2.2.2.2.1.1 k hk)⟩
  · funext j; by_cases hj : j = i <;> simp [mm_av, mm_wl, updV, hj]
  · funext b; simp [mm_wl, hn]
/-- a field by its link: own class, pool number; the kind's number, the place -/
def mm_L (own : String) (index ci j : Nat) : Prop := ∃ (Cn : String) (T : u_T) (N : Nat), vwCl[ci]? = some (Cn, T, N) ∧ (∀ w ∈ u_ws Cn T N, w ∈ wsL_law) ∧ j < N ∧ Cond.fieldLink own index Cn (T j).2.1 (T j).2.2.1 ∈ wsL_law ∧ (T j).1 = Cn
def mm_Lw (own : String) (index ci j : Nat) (ty : FieldType) : Prop := ∃ (Cn : String) (T : u_T) (N : Nat) (ty0 : Nat → FieldType), vwCl[ci]? = some (Cn, T, N) ∧ (∀ w ∈ u_ws Cn T N, w ∈ wsL_law) ∧ j < N ∧ Cond.fieldLink own index Cn (T j).2.1 (T j).2.2.1 ∈ wsL_law ∧ (T j).1 = Cn ∧
  (∀ k, k < N → parseFieldDescriptor (T k).2.2.1 = some (ty0 k)) ∧ (∀ a, a < N → ∀ b, b < N → a ≠ b → (T a).2.1 ≠ (T b).2.1) ∧ (T j).2.2.2 = false ∧ ty0 j = ty
theorem mm_G.obj {k ci : Nat} {q : vw_C} (g : mm_G D r M s H) (hk : k < 181) (hs : mm_sh k = .inr ci) (hc : vwCl[ci]? = some q) : t_OB (r k) (D.1 ci) q.2.2 (D.2 ci) H (fun j => mm_v r M k j (mm_ds k j)) := by
  have h := g k hk
  unfold mm_at at h
  rw [hs] at h
  obtain ⟨q', h1, h2, -⟩ := h
  rw [hc] at h1
  cases h1
  exact h2
theorem mm_G.okf {k ci : Nat} (g : mm_G D r M s H) (hk : k < 181) (hs : mm_sh k = .inr ci) : mm_okf ci M k := by
  have h := g k hk
  unfold mm_at at h
  rw [hs] at h
  exact h.elim fun _ z => z.2.2
theorem mm_G.keyed {k : Nat} (g : mm_G D r M s H) (hk : k < 181) (hs : mm_sh k = .inr 2) : M.1 k 3 = 0 ∨ M.1 k 3 = 1 := (g.okf hk hs).1 rfl
theorem mm_G.initiator {k : Nat} (g : mm_G D r M s H) (hk : k < 181) (hs : mm_sh k = .inr 6) : M.1 k 9 = 0 ∨ M.1 k 9 = 1 := (g.okf hk hs).2 rfl
theorem m_get (C : mm_C p c cc nL own m meth ret s args D b0 r) (w : mm_W D b0 r M s H locs) {k j ci index : Nat} (hL : mm_L own index ci j) (hk : k < 181) (hs : mm_sh k = .inr ci) {v : Value} (hv : mm_v r M k j (mm_ds k j) = v) (hdg : decode cc pc = .ok (.getfield index, 3))
    (kk : W p l e R s m args below meth c H locs cells slots Q (F0 m (pc + 3) ls (v :: rest))) : W p l e R s m args below meth c H locs cells slots Q (F0 m pc ls (.ref (r k) :: rest)) := by
  obtain ⟨Cn, T, N, hc, hin, hj, hlk, hT⟩ := hL
  obtain ⟨hx, hb, hml, hown, hts, hK, hR, hZ, hlo, hret, hN⟩ := C
  obtain ⟨cell, q1, q2, q3, q4⟩ := w.1.obj hk hs hc
  obtain ⟨hS, hfc, kC, hkC, hkind⟩ := hK.1 ci _ hc
  obtain ⟨cf, kf, fi, f, hi, hsl⟩ := hS j hj
  refine W.getf hx hb hown (hts _ hlk) (by have h9 := hi; rw [hT] at h9; exact h9) (u_facts hfc hkC (u_lays hts hin hj) hi).1 q1 (by rw [q3]; exact fun h => by cases h) (v := v) ?_ rfl rfl hdg kk
  rw [hsl, q4 j hj]
  exact congrArg some hv
theorem m_put_any (C : mm_C p c cc nL own m meth ret s args D b0 r) (w : mm_W D b0 r M s H locs) {k j ci index : Nat} {ty : FieldType} (hL : mm_Lw own index ci j ty) (hk : k < 173) (hs : mm_sh k = .inr ci) {v : Value} {M' : mm_M} (hn : narrow ty v = v) (hfit : fits ty v = true) (hdg : decode cc pc = .ok (.putfield index, 3))
    (hv : ∀ i, mm_v r M' k i (mm_ds k i) = updV (fun i => mm_v r M k i (mm_ds k i)) j v i) (hokf : mm_okf ci M' k) (ho : ∀ a, a ≠ k → M'.1 a = M.1 a ∧ M'.2 a = M.2 a)
    (kk : ∀ (H1 : Heap) (locs1 : List Loc), mm_W D b0 r M' s H1 locs1 → W p l e R s m args below meth c H1 locs1 cells slots Q (F0 m (pc + 3) ls rest)) : W p l e R s m args below meth c H locs cells slots Q (F0 m pc ls (v :: .ref (r k) :: rest)) := by
  obtain ⟨Cn, T, N, ty0, hc, hin, hj, hlk, hT, hty, hnm, hfin, hte⟩ := hL
  obtain ⟨hx, hb, hml, hown, hts, hK, hR, hZ, hlo, hret, hN⟩ := C
  have hap := va_apart (own := own) hts hin ty0 hty hnm hK hc
  obtain ⟨cell, q1, q2, q3, q4⟩ := w.1.obj (show k < 181 by omega) hs hc
  obtain ⟨hS, hfc, kC, hkC, hkind⟩ := hK.1 ci _ hc
  obtain ⟨cf, kf, fi, f, hi, hsl⟩ := hS j hj
  have hlay := hts _ (hin _ (u_in_lay hj))
  unfold u_lay at hlay
  rw [if_neg (by rw [hfin]; decide)] at hlay
  have hst := (u_facts hfc hkC (u_lays hts hin hj) hi).1
  have h6 := u_store hfc hkC hkind hlay hi (hty j hj) (by rw [hte]; exact hn) (by rw [hte]; exact hfit)
  refine W.putK hx hb (f := f) ⟨hown, hts _ hlk, ⟨_, _, _, by have h9 := hi; rw [hT] at h9; exact h9⟩, hst⟩ (by rw [q2]; exact h6) q1 q3 (by rw [hsl]; exact k2_hasslot (q4 j hj)) rfl rfl hdg fun H' e1 e2 e3 => ?_
  rw [hsl] at e1 ⊢
  refine kk H' _ ⟨w.1.set hR hk ?_ e3 ho, w.2.put e2 e3 (hR.1 k hk)⟩
  unfold mm_at
  rw [hs]
  exact ⟨_, hc, t_OB.to (V := updV (fun i => mm_v r M k i (mm_ds k i)) j v) ⟨_, e1, q2, q3, t_set q4 hap hj v⟩ (fun i _ => (hv i).symm), hokf⟩
theorem mm_okf.w {ci k j : Nat} {x : Int32} (hb : mm_nb ci j = true) (h : mm_okf ci M k) : mm_okf ci (mm_w M k j x) k := by
  refine ⟨fun e => ?_, fun e => ?_⟩
  · have hj : ¬ 3 = j := fun q => by subst e; subst q; simp [mm_nb] at hb
    simp [mm_w, hj]; exact h.1 e
  · have hj : ¬ 9 = j := fun q => by subst e; subst q; simp [mm_nb] at hb
    simp [mm_w, hj]; exact h.2 e
theorem mm_okf.z {ci k j : Nat} {x : Int32} (hx : x = 0 ∨ x = 1) (h : mm_okf ci M k) : mm_okf ci (mm_w M k j x) k := by
  refine ⟨fun e => ?_, fun e => ?_⟩
  · by_cases hj : 3 = j
    · simp [mm_w, hj]; exact hx
    · simp [mm_w, hj]; exact h.1 e
  · by_cases hj : 9 = j
    · simp [mm_w, hj]; exact hx
    · simp [mm_w, hj]; exact h.2 e
theorem m_puti (C : mm_C p c cc nL own m meth ret s args D b0 r) (w : mm_W D b0 r M s H locs) {k j ci index : Nat} (hb : mm_nb ci j = true) (hL : mm_Lw own index ci j .int) (hk : k < 173) (hs : mm_sh k = .inr ci) (hd : mm_ds k j = 0) {x : Int32} (hdg : decode cc pc = .ok (.putfield index, 3))
    (kk : ∀ (H1 : Heap) (locs1 : List Loc), mm_W D b0 r (mm_w M k j x) s H1 locs1 → W p l e R s m args below meth c H1 locs1 cells slots Q (F0 m (pc + 3) ls rest)) : W p l e R s m args below meth c H locs cells slots Q (F0 m pc ls (.int x :: .ref (r k) :: rest)) := by
  refine m_put_any C w hL hk hs (M' := mm_w M k j x) rfl rfl hdg (fun i => ?_) (mm_okf.w hb (w.1.okf (by omega) hs)) (fun a ha => ⟨?_, rfl⟩) kk
  · by_cases hi : i = j
    · subst hi; simp [updV, hd, mm_v, mm_w]
    · simp only [updV, if_neg hi]; unfold mm_v; split <;> simp [mm_w, hi]
  · funext b; simp [mm_w, ha]
theorem m_putz (C : mm_C p c cc nL own m meth ret s args D b0 r) (w : mm_W D b0 r M s H locs) {k j ci index : Nat} (hL : mm_Lw own index ci j .boolean) (hk : k < 173) (hs : mm_sh k = .inr ci) (hd : mm_ds k j = 0) {x : Int32} (hx : x = 0 ∨ x = 1) (hdg : decode cc pc = .ok (.putfield index, 3))
    (kk : ∀ (H1 : Heap) (locs1 : List Loc), mm_W D b0 r (mm_w M k j x) s H1 locs1 → W p l e R s m args below meth c H1 locs1 cells slots Q (F0 m (pc + 3) ls rest)) : W p l e R s m args below meth c H locs cells slots Q (F0 m pc ls (.int x :: .ref (r k) :: rest)) := by
  refine m_put_any C w hL hk hs (M' := mm_w M k j x) (by rcases hx with rfl | rfl <;> decide) (by rcases hx with rfl | rfl <;> decide) hdg (fun i => ?_) (mm_okf.z hx (w.1.okf (by omega) hs)) (fun a ha => ⟨?_, rfl⟩) kk
  · by_cases hi : i = j
    · subst hi; simp [updV, hd, mm_v, mm_w]
    · simp only [updV, if_neg hi]; unfold mm_v; split <;> simp [mm_w, hi]
  · funext b; simp [mm_w, ha]
theorem m_putl (C : mm_C p c cc nL own m meth ret s args D b0 r) (w : mm_W D b0 r M s H locs) {k j ci index : Nat} (hL : mm_Lw own index ci j .long) (hk : k < 173) (hs : mm_sh k = .inr ci) (hd : mm_ds k j = 1) {x : Int64} (hdg : decode cc pc = .ok (.putfield index, 3))
    (kk : ∀ (H1 : Heap) (locs1 : List Loc), mm_W D b0 r (mm_wl M k j x) s H1 locs1 → W p l e R s m args below meth c H1 locs1 cells slots Q (F0 m (pc + 3) ls rest)) : W p l e R s m args below meth c H locs cells slots Q (F0 m pc ls (.long x :: .ref (r k) :: rest)) := by
  refine m_put_any C w hL hk hs (M' := mm_wl M k j x) rfl rfl hdg (fun i => ?_) (w.1.okf (by omega) hs) (fun a ha => ⟨rfl, ?_⟩) kk
  · by_cases hi : i = j
    · subst hi; simp [updV, hd, mm_v, mm_wl]
    · simp only [updV, if_neg hi]; unfold mm_v; split <;> simp [mm_wl, hi]
  · funext b; simp [mm_wl, ha]
end MR2

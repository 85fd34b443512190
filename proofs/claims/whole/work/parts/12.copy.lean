def mm_cp (M : mm_M) (k sp k2 dp n : Nat) : mm_M := (fun a b => if a = k2 ∧ dp ≤ b ∧ b < dp + n then M.1 k (sp + (b - dp)) else M.1 a b, M.2)
def mm_cpl (M : mm_M) (k sp k2 dp n : Nat) : mm_M := (M.1, fun a b => if a = k2 ∧ dp ≤ b ∧ b < dp + n then M.2 k (sp + (b - dp)) else M.2 a b)
def mm_us (x y : Int32) : Int32 := (x.toUInt32 >>> (y.toUInt32 &&& Int32.toUInt32 31)).toInt32
def mm_ul (x : Int64) (y : Int32) : Int64 := (x.toUInt64 >>> (y.toInt64.toUInt64 &&& Int64.toUInt64 63)).toInt64
def mm_b (x : Int32) : Int32 := x.toInt8.toInt32
theorem mm_bb (x : Int32) : (mm_b x).toInt8.toInt32 = mm_b x := by
  unfold mm_b
  rw [Int8.toInt8_toInt32]
theorem mm_dn {n m : Nat} (h : n = m + 1) : nI n - 1 = nI m := by rw [h]; exact nI_pred m
theorem mm_dec (n d : Nat) (h : d ≤ n) : nI n + Int32.ofInt (-(d : Int)) = nI (n - d) := by
  rw [← pk_sub h, Int32.sub_eq_add_neg]
  congr 1
  rw [Int32.ofInt_neg]
  rfl
section MCP
variable {p : Program} {l : Launch} {e : Env} {R : Room} {s : State} {m : MethodId} {args : Array Value} {below : List Frame} {meth : Method} {c : Code} {H : Heap} {locs : List Loc} {cells slots : Nat} {Q : State → Prop}
variable {cc : ByteArray} {nL pc : Nat} {own : String} {ret : Option FieldType} {ls : Array Slot} {rest : List Value} {D : va_G} {b0 : Nat} {r : Nat → Nat} {M : mm_M} {lv : List (Nat × Value)} {index : Nat}
theorem m_cp_any {α : Type} (mk : α → Value) (f g : Nat → α) {ty : FieldType} {k k2 sp dp n N N2 : Nat} {wr : Bool} {M' : mm_M} (C : mm_C p c cc nL own m meth ret s args D b0 r) (w : mm_W D b0 r M s H locs) (hl : lv_has ls nL lv) (hk : k < 181) (hs : mm_sh k = .inl (ty, N, wr)) (hN : N < 2 ^ 31) (hk2 : k2 < 173) (hs2 : mm_sh k2 = .inl (ty, N2, true)) (hN2 : N2 < 2 ^ 31) (hprim : refKind ty = false)
    (hf : ∀ j, mm_av ty r M k j = mk (f j)) (hg : ∀ j, mm_av ty r M k2 j = mk (g j)) (hg' : ∀ j, mm_av ty r M' k2 j = mk (va_cpy f g sp dp n j)) (hok : mm_ok ty M' k2 N2) (ho : ∀ a, a ≠ k2 → M'.1 a = M.1 a ∧ M'.2 a = M.2 a) (hfit : ∀ j, j < N → fits ty (mk (f j)) = true) (hprim2 : ∀ j, (mk (f j)) ≠ .null → True)
    (hnr : ∀ j, ∀ a, mk (f j) ≠ .ref a)
    (hlk : Cond.methodLink own index arraycopyName ∈ wsL_law) (h4 : sp + n ≤ N) (h5 : dp + n ≤ N2) (hframes : 1 ≤ R.frames) (hlocals : (rest.map fun v => v.category).sum + (nativeFrameWords "java/lang/System" "arraycopy" 5 + 11) ≤ R.locals) (hdg : decode cc pc = .ok (.invokestatic index, 3))
    (kk : ∀ (H1 : Heap) (locs1 : List Loc), mm_W D b0 r M' s H1 locs1 → W p l e R s m args below meth c H1 locs1 cells slots Q (F0 m (pc + 3) ls rest)) : W p l e R s m args below meth c H locs cells slots Q (F0 m pc ls (.int (nI n) :: .int (nI dp) :: .ref (r k2) :: .int (nI sp) :: .ref (r k) :: rest)) := by
  intro T hT X
  have hts := C.2.2.2.2.1
  obtain ⟨⟨scr, hs1, hsa, hs3, hs4, -, hs5, -⟩, -⟩ := w.1.arr hk hs
  have ha := w.1.arr (show k2 < 181 by omega) hs2
  obtain ⟨⟨cell, hc1, hca, -, -, hc5, -, hc7⟩, -⟩ := id ha
  obtain ⟨cA, hA, rfl⟩ := hc7 rfl
  obtain ⟨hs6, k0, hk0, cm0, hkk0⟩ := hsa
  obtain ⟨-, k1, hk1, cm1, hkk1⟩ := hA N2 (mm_av ty r M k2)
  have esp : (nI sp).toNatClampNeg = sp := nI_clamp (by omega)
  have edp : (nI dp).toNatClampNeg = dp := nI_clamp (by omega)
  have en : (nI n).toNatClampNeg = n := nI_clamp (by omega)
  have isp : (nI sp).toInt = (sp : Int) := nI_toInt (by omega)
  have idp : (nI dp).toInt = (dp : Int) := nI_toInt (by omega)
  have inn : (nI n).toInt = (n : Int) := nI_toInt (by omega)
  obtain ⟨vm', X', step⟩ := X.arraycopy C.1 C.2.2.2.1 (hts _ hlk) (hts _ ac_nat) (hts _ ac_st) (hts _ ac_in) (src := r k) (dst := r k2) (cs := scr) (cd := arrV cA N2 (mm_av ty r M k2)) (srcPos := nI sp) (destPos := nI dp) (n := nI n) (by rw [hT]; exact hs1) (by rw [hT]; exact hc1)
    hs6 (fun _ h => by cases h) hs3 (fun h => by cases h) hk0 hk1 hkk0 hkk1 (by simp [hprim]) (nI_pos (by omega)) (nI_pos (by omega)) (nI_pos (by omega))
    (by rw [isp, inn]; omega)
    (by rw [idp, inn, arrV_size]; omega)
    (fun vm₁ _ i hi => by
      rw [en] at hi
      have e : scr.slots.getD ((nI sp).toNatClampNeg + i) .null = mk (f (sp + i)) := by
        rw [esp, Array.getD_eq_getD_getElem?, hs5 _ (by omega), hf]
        rfl
      refine ⟨?_, ?_⟩
      · rw [e]
        exact hfit _ (by omega)
      · rw [e]
        first | exact trivial | (cases hm : mk (f (sp + i)) <;> first | trivial | exact absurd hm (hnr _ _)))
    (g := F0 m pc ls (.int (nI n) :: .int (nI dp) :: .ref (r k2) :: .int (nI sp) :: .ref (r k) :: rest)) rfl (by rw [C.2.2.1]; exact hl.1) (rest := rest) rfl (by rw [C.2.1]; exact hdg) hframes (by show 2 * 0 + _ + _ ≤ _; omega)
  have hgf : mm_av ty r M k2 = fun j => mk (g j) := funext hg
  have e1 : copied scr (arrV cA N2 (mm_av ty r M k2)) (nI sp) (nI dp) (nI n) = arrV cA N2 (mm_av ty r M' k2) := by
    rw [hgf, show mm_av ty r M' k2 = fun j => mk (va_cpy f g sp dp n j) from funext hg']
    refine Eq.trans (va_copiedX (n0 := N) (n1 := N2) (sp := (nI sp).toNatClampNeg) (dp := (nI dp).toNatClampNeg) (n := (nI n).toNatClampNeg) mk scr cA f g (fun j hj => by rw [hs5 j hj, hf]) (by rw [esp, en]; exact h4)) ?_
    rw [esp, edp, en]
  rw [e1] at X' step
  have hlt : r k2 < H.size := (Array.getElem?_eq_some_iff.mp hc1).1
  have hheap : ((T.setVm vm').setCell (r k2) (arrV cA N2 (mm_av ty r M' k2))).heap = H.setIfInBounds (r k2) (arrV cA N2 (mm_av ty r M' k2)) := by rw [← hT]; rfl
  have oq : ∀ q : Nat, q ≠ r k2 → (H.setIfInBounds (r k2) (arrV cA N2 (mm_av ty r M' k2)))[q]? = H[q]? := fun q hq => by simp [Array.getElem?_setIfInBounds, Ne.symm hq]
  have hnew : (H.setIfInBounds (r k2) (arrV cA N2 (mm_av ty r M' k2)))[r k2]? = some (arrV cA N2 (mm_av ty r M' k2)) := by simp [Array.getElem?_setIfInBounds, hlt]
  have hR := C.2.2.2.2.2.2.1
  have hat : mm_at D r M' s (H.setIfInBounds (r k2) (arrV cA N2 (mm_av ty r M' k2))) k2 := mm_at.ar hs2 ⟨⟨_, hnew, hA N2 _, (fun q => by cases q), (by rw [arrV_size]; exact Nat.le_refl _), (by rw [arrV_size]), (fun j hj => arrV_read _ _ hj), fun _ => ⟨cA, hA, rfl⟩⟩, hok, fun q => by cases q⟩
  obtain ⟨t, a1, b1⟩ := kk _ _ ⟨w.1.set hR hk2 hat oq ho, ⟨by simp; exact w.2.1, fun q g1 g2 => by
      rw [oq q (fun e => g2 (by rw [e]; exact hR.1 k2 hk2))]
      exact w.2.2.1 q g1 g2, fun q hq => by
      rcases List.mem_append.mp hq with h | h
      · exact w.2.2.2 q h
      · obtain ⟨z, -, hz⟩ := List.mem_map.mp h
        rw [← hz]
        exact hR.1 k2 hk2⟩⟩ _ hheap X'
  exact ⟨t, step t a1, b1⟩
theorem m_cpb {k k2 sp dp n N N2 : Nat} {wr : Bool} (C : mm_C p c cc nL own m meth ret s args D b0 r) (w : mm_W D b0 r M s H locs) (hl : lv_has ls nL lv) (hk : k < 181) (hs : mm_sh k = .inl (.byte, N, wr)) (hN : N < 2 ^ 31) (hk2 : k2 < 173) (hs2 : mm_sh k2 = .inl (.byte, N2, true)) (hN2 : N2 < 2 ^ 31)
    (hlk : Cond.methodLink own index arraycopyName ∈ wsL_law) (h4 : sp + n ≤ N) (h5 : dp + n ≤ N2) (hframes : 1 ≤ R.frames) (hlocals : (rest.map fun v => v.category).sum + (nativeFrameWords "java/lang/System" "arraycopy" 5 + 11) ≤ R.locals) (hdg : decode cc pc = .ok (.invokestatic index, 3))
    (kk : ∀ (H1 : Heap) (locs1 : List Loc), mm_W D b0 r (mm_cp M k sp k2 dp n) s H1 locs1 → W p l e R s m args below meth c H1 locs1 cells slots Q (F0 m (pc + 3) ls rest)) : W p l e R s m args below meth c H locs cells slots Q (F0 m pc ls (.int (nI n) :: .int (nI dp) :: .ref (r k2) :: .int (nI sp) :: .ref (r k) :: rest)) := by
  refine m_cp_any (M' := mm_cp M k sp k2 dp n) (sp := sp) (dp := dp) (n := n) (fun z => .int z) (M.1 k) (M.1 k2) C w hl hk hs hN hk2 hs2 hN2 rfl (fun _ => rfl) (fun _ => rfl) (fun j => ?_) ?_ (fun a ha => ⟨?_, rfl⟩) (fun j hj => ?_) (fun _ _ => trivial) (fun _ _ h => by cases h) hlk h4 h5 hframes hlocals hdg kk
  · simp [mm_av, mm_cp, va_cpy]
  · intro j hj
    simp only [mm_cp]
    split
    · exact w.1.byte hk hs (by omega)
    · exact w.1.byte (by omega) hs2 hj
  · funext b; simp [mm_cp, ha]
  · have := w.1.byte hk hs hj
    rw [← this]; exact pk_fb _
theorem m_cpi {k k2 sp dp n N N2 : Nat} {wr : Bool} (C : mm_C p c cc nL own m meth ret s args D b0 r) (w : mm_W D b0 r M s H locs) (hl : lv_has ls nL lv) (hk : k < 181) (hs : mm_sh k = .inl (.int, N, wr)) (hN : N < 2 ^ 31) (hk2 : k2 < 173) (hs2 : mm_sh k2 = .inl (.int, N2, true)) (hN2 : N2 < 2 ^ 31)
    (hlk : Cond.methodLink own index arraycopyName ∈ wsL_law) (h4 : sp + n ≤ N) (h5 : dp + n ≤ N2) (hframes : 1 ≤ R.frames) (hlocals : (rest.map fun v => v.category).sum + (nativeFrameWords "java/lang/System" "arraycopy" 5 + 11) ≤ R.locals) (hdg : decode cc pc = .ok (.invokestatic index, 3))
    (kk : ∀ (H1 : Heap) (locs1 : List Loc), mm_W D b0 r (mm_cp M k sp k2 dp n) s H1 locs1 → W p l e R s m args below meth c H1 locs1 cells slots Q (F0 m (pc + 3) ls rest)) : W p l e R s m args below meth c H locs cells slots Q (F0 m pc ls (.int (nI n) :: .int (nI dp) :: .ref (r k2) :: .int (nI sp) :: .ref (r k) :: rest)) := by
  refine m_cp_any (M' := mm_cp M k sp k2 dp n) (sp := sp) (dp := dp) (n := n) (fun z => .int z) (M.1 k) (M.1 k2) C w hl hk hs hN hk2 hs2 hN2 rfl (fun _ => rfl) (fun _ => rfl) (fun j => ?_) trivial (fun a ha => ⟨?_, rfl⟩) (fun j hj => rfl) (fun _ _ => trivial) (fun _ _ h => by cases h) hlk h4 h5 hframes hlocals hdg kk
  · simp [mm_av, mm_cp, va_cpy]
  · funext b; simp [mm_cp, ha]
theorem m_cpl {k k2 sp dp n N N2 : Nat} {wr : Bool} (C : mm_C p c cc nL own m meth ret s args D b0 r) (w : mm_W D b0 r M s H locs) (hl : lv_has ls nL lv) (hk : k < 181) (hs : mm_sh k = .inl (.long, N, wr)) (hN : N < 2 ^ 31) (hk2 : k2 < 173) (hs2 : mm_sh k2 = .inl (.long, N2, true)) (hN2 : N2 < 2 ^ 31)
    (hlk : Cond.methodLink own index arraycopyName ∈ wsL_law) (h4 : sp + n ≤ N) (h5 : dp + n ≤ N2) (hframes : 1 ≤ R.frames) (hlocals : (rest.map fun v => v.category).sum + (nativeFrameWords "java/lang/System" "arraycopy" 5 + 11) ≤ R.locals) (hdg : decode cc pc = .ok (.invokestatic index, 3))
    (kk : ∀ (H1 : Heap) (locs1 : List Loc), mm_W D b0 r (mm_cpl M k sp k2 dp n) s H1 locs1 → W p l e R s m args below meth c H1 locs1 cells slots Q (F0 m (pc + 3) ls rest)) : W p l e R s m args below meth c H locs cells slots Q (F0 m pc ls (.int (nI n) :: .int (nI dp) :: .ref (r k2) :: .int (nI sp) :: .ref (r k) :: rest)) := by
  refine m_cp_any (M' := mm_cpl M k sp k2 dp n) (sp := sp) (dp := dp) (n := n) (fun z => .long z) (M.2 k) (M.2 k2) C w hl hk hs hN hk2 hs2 hN2 rfl (fun _ => rfl) (fun _ => rfl) (fun j => ?_) trivial (fun a ha => ⟨rfl, ?_⟩) (fun j hj => rfl) (fun _ _ => trivial) (fun _ _ h => by cases h) hlk h4 h5 hframes hlocals hdg kk
  · simp [mm_av, mm_cpl, va_cpy]
  · funext b; simp [mm_cpl, ha]
end MCP
theorem mm_neg {n : Nat} (h : n = 0) : nI n - 1 < 0 := by rw [h]; decide
/-- which cells a function leaves as they were: all but those of the list -/
def mm_fr (L : List Nat) (M M' : mm_M) : Prop := ∀ a, a ∉ L → M'.1 a = M.1 a ∧ M'.2 a = M.2 a
theorem mm_fr_refl (L : List Nat) (M : mm_M) : mm_fr L M M := fun _ _ => ⟨rfl, rfl⟩
theorem mm_fr_w {L : List Nat} {M M1 : mm_M} {k j : Nat} {v : Int32} (hk : k ∈ L) (h : mm_fr L M M1) : mm_fr L M (mm_w M1 k j v) := fun a ha => by
  have hn : a ≠ k := fun e => ha (e ▸ hk)
  refine ⟨?_, (h a ha).2⟩
  rw [← (h a ha).1]
  funext b; simp [mm_w, hn]
theorem mm_fr_wl {L : List Nat} {M M1 : mm_M} {k j : Nat} {v : Int64} (hk : k ∈ L) (h : mm_fr L M M1) : mm_fr L M (mm_wl M1 k j v) := fun a ha => by
  have hn : a ≠ k := fun e => ha (e ▸ hk)
  refine ⟨(h a ha).1, ?_⟩
  rw [← (h a ha).2]
  funext b; simp [mm_wl, hn]
theorem mm_fr_cp {L : List Nat} {M M1 : mm_M} {k sp k2 dp n : Nat} (hk : k2 ∈ L) (h : mm_fr L M M1) : mm_fr L M (mm_cp M1 k sp k2 dp n) := fun a ha => by
  have hn : a ≠ k2 := fun e => ha (e ▸ hk)
  refine ⟨?_, (h a ha).2⟩
  rw [← (h a ha).1]
  funext b; simp [mm_cp, hn]
theorem mm_fr_cpl {L : List Nat} {M M1 : mm_M} {k sp k2 dp n : Nat} (hk : k2 ∈ L) (h : mm_fr L M M1) : mm_fr L M (mm_cpl M1 k sp k2 dp n) := fun a ha => by
  have hn : a ≠ k2 := fun e => ha (e ▸ hk)
  refine ⟨(h a ha).1, ?_⟩
  rw [← (h a ha).2]
  funext b; simp [mm_cpl, hn]
theorem mm_fr.on {L L' : List Nat} {M M1 M2 : mm_M} (h : mm_fr L' M1 M2) (hs : ∀ a ∈ L', a ∈ L) (h0 : mm_fr L M M1) : mm_fr L M M2 := fun a ha =>
  ⟨(h a (fun q => ha (hs a q))).1.trans (h0 a ha).1, (h a (fun q => ha (hs a q))).2.trans (h0 a ha).2⟩
theorem mm_fr_ite {L : List Nat} {M A B : mm_M} {c : Prop} [Decidable c] (h1 : c → mm_fr L M A) (h2 : ¬ c → mm_fr L M B) : mm_fr L M (if c then A else B) := by
  split
  · exact h1 ‹_›
  · exact h2 ‹_›
def mm_fr1 {α : Type} (L : List Nat) (M : mm_M) (p : mm_M × α) : Prop := mm_fr L M p.1
def mm_fr2 {α : Type} (L : List Nat) (M : mm_M) (p : α × mm_M) : Prop := mm_fr L M p.2
theorem mm_fr.a {α : Type} {L : List Nat} {M M' : mm_M} {x : α} (h : mm_fr L M M') : mm_fr1 L M (M', x) := h
theorem mm_fr.b {α : Type} {L : List Nat} {M M' : mm_M} {x : α} (h : mm_fr L M M') : mm_fr2 L M (x, M') := h
theorem mm_fr1.m {α : Type} {L : List Nat} {M : mm_M} {p : mm_M × α} (h : mm_fr1 L M p) : mm_fr L M p.1 := h
theorem mm_fr2.m {α : Type} {L : List Nat} {M : mm_M} {p : α × mm_M} (h : mm_fr2 L M p) : mm_fr L M p.2 := h
theorem mm_fr1.on {α : Type} {L L' : List Nat} {M M1 : mm_M} {p : mm_M × α} (h : mm_fr1 L' M1 p) (hs : ∀ a ∈ L', a ∈ L) (h0 : mm_fr L M M1) : mm_fr1 L M p := mm_fr.on h hs h0
theorem mm_fr2.on {α : Type} {L L' : List Nat} {M M1 : mm_M} {p : α × mm_M} (h : mm_fr2 L' M1 p) (hs : ∀ a ∈ L', a ∈ L) (h0 : mm_fr L M M1) : mm_fr2 L M p := mm_fr.on h hs h0
theorem mm_fr_ite1 {α : Type} {L : List Nat} {M : mm_M} {A B : mm_M × α} {c : Prop} [Decidable c] (h1 : c → mm_fr1 L M A) (h2 : ¬ c → mm_fr1 L M B) : mm_fr1 L M (if c then A else B) := by
  split
  · exact h1 ‹_›
  · exact h2 ‹_›
theorem mm_fr_ite2 {α : Type} {L : List Nat} {M : mm_M} {A B : α × mm_M} {c : Prop} [Decidable c] (h1 : c → mm_fr2 L M A) (h2 : ¬ c → mm_fr2 L M B) : mm_fr2 L M (if c then A else B) := by
  split
  · exact h1 ‹_›
  · exact h2 ‹_›
theorem mm_dn2 {a b : Nat} (h : a = b) : nI a + Int32.ofInt (-1) = nI b - 1 := by
  rw [h, Int32.sub_eq_add_neg]
  rfl

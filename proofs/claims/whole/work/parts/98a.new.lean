/-! making the world: constructors, over exact addresses -/
def mm_m0 (k j : Nat) : Int32 := if 173 ≤ k then mm_tab k j else if k = 123 then mm_tab 176 j else if k = 124 then mm_tab 175 j else if 49 ≤ k ∧ k < 117 ∧ (k - 49) % 17 = 0 ∧ j = 10 then -1 else 0
def mm_M1 : mm_M := (mm_m0, fun _ _ => 0)
def n_z (k : Nat) : Prop := k < 173 ∧ k ≠ 123 ∧ k ≠ 124 ∧ ¬ (49 ≤ k ∧ k < 117 ∧ (k - 49) % 17 = 0) ∧ k ≠ 42
theorem n_z.at {k : Nat} (h : n_z k) (j : Nat) : mm_m0 k j = 0 := by
  obtain ⟨h1, h2, h3, h4, -⟩ := h
  unfold mm_m0
  rw [if_neg (by omega), if_neg h2, if_neg h3, if_neg (fun q => h4 ⟨q.1, q.2.1, q.2.2.1⟩)]
/-- an object as far as it is made -/
def n_O (D : va_G) (r : Nat → Nat) (H : Heap) (k ci : Nat) (fs : List Value) : Prop := ∃ q : vw_C, vwCl[ci]? = some q ∧ t_OB (r k) (D.1 ci) q.2.2 (D.2 ci) H (vp_V fs)
theorem n_O.kept {D : va_G} {r : Nat → Nat} {H H1 : Heap} {k ci : Nat} {fs : List Value} (h : n_O D r H k ci fs) (hq : H1[r k]? = H[r k]?) : n_O D r H1 k ci fs := by
  obtain ⟨q, h1, h2⟩ := h
  exact ⟨q, h1, h2.kept hq⟩
theorem n_O.lt {D : va_G} {r : Nat → Nat} {H : Heap} {k ci : Nat} {fs : List Value} (h : n_O D r H k ci fs) : r k < H.size := by
  obtain ⟨q, h1, cell, h2, -⟩ := h
  exact (Array.getElem?_eq_some_iff.mp h2).1
theorem n_at_kept {D : va_G} {r : Nat → Nat} {M : mm_M} {s : State} {H H1 : Heap} {k : Nat} (h : mm_at D r M s H k) (hq : H1[r k]? = H[r k]?) : mm_at D r M s H1 k := h.to hq rfl rfl
/-- links that no word list carries -/
def n_N (U : State) : Prop := va_Nw (.methodLinkNest RX11 30 yX9_init "NoiseEngine") U ∧ va_Nw (.methodLinkNest RX9 9 yX4_init "NoiseEngine") U ∧ va_Nw (.methodLinkNest RX9 18 yX8_init "NoiseEngine") U ∧ va_Nw (.methodLinkNest RX9 34 yX0_init "NoiseEngine") U ∧ va_Nw (.methodLinkNest RX0 11 yX2_init "NoiseEngine") U ∧ va_Nw (.methodLinkNest RX0 20 yX6_init "NoiseEngine") U ∧ va_AO "NoiseEngine$Session" U ∧ n_AB U
theorem n_N.warm {s U : State} (hW : s.WarmedH U.vm) (h : n_N s) : n_N U := ⟨h.1.warmM hW, h.2.1.warmM hW, h.2.2.1.warmM hW, h.2.2.2.1.warmM hW, h.2.2.2.2.1.warmM hW, h.2.2.2.2.2.1.warmM hW, h.2.2.2.2.2.2.1.moved hW.alike, h.2.2.2.2.2.2.2.moved hW.alike⟩
theorem n_N.same {s U : State} (hv : s.vm = U.vm) (h : n_N s) : n_N U := ⟨h.1.same rfl hv, h.2.1.same rfl hv, h.2.2.1.same rfl hv, h.2.2.2.1.same rfl hv, h.2.2.2.2.1.same rfl hv, h.2.2.2.2.2.1.same rfl hv, h.2.2.2.2.2.2.1.moved (by rw [hv]; exact Vm.Alike.refl _), h.2.2.2.2.2.2.2.moved (by rw [hv]; exact Vm.Alike.refl _)⟩
def n_bls : List (List Value) := [[.null, .null, .null, .int 0], [.null, .null, .null], [.null, .null, .null, .int 0, .long 0], [.null, .null, .null, .null, .null, .null, .null, .null, .null], [.null, .null, .null, .null], [.null, .null, .null, .null], [.null, .null, .null, .null, .null, .null, .null, .null, .null, .int 0, .int 0, .int 0], [.null, .null, .null, .int 0, .long 0], [.null, .null, .null, .null], [.null, .null, .null, .null, .null], [.null, .int 0, .null, .int 0, .null, .null, .null], [.null, .null, .null, .null, .int 0, .int 0, .null, .null, .null, .null, .null, .null, .null, .null, .int 0, .null, .null, .null, .null, .null, .null, .null, .null, .null, .null, .null, .null, .null, .null, .null, .null, .null, .null, .null, .null, .null, .null, .null, .null, .null, .null, .null, .null, .null, .null, .null, .null, .null, .null, .null, .null, .null, .null, .null, .null, .null, .null, .null]]
def n_bl (ci : Nat) : List Value := n_bls.getD ci []
/-- a class whose objects are made -/
def n_K (ci : Nat) : Prop := ∃ (Cn : String) (T : u_T) (N : Nat) (ty0 : Nat → FieldType), vwCl[ci]? = some (Cn, T, N) ∧ (∀ w ∈ u_ws Cn T N, w ∈ wsL_law) ∧ (∀ k, k < N → parseFieldDescriptor (T k).2.2.1 = some (ty0 k)) ∧ (∀ j, j < N → defaultValue (ty0 j) = vp_V (n_bl ci) j) ∧ Cond.instantiable Cn N ∈ wsL_law ∧ Cond.initialized Cn ∈ wsL_law
/-- a final field -/
def n_Lf (own : String) (index ci j : Nat) (ty : FieldType) : Prop := ∃ (T : u_T) (N : Nat) (ty0 : Nat → FieldType), vwCl[ci]? = some (own, T, N) ∧ (∀ w ∈ u_ws own T N, w ∈ wsL_law) ∧ j < N ∧ Cond.fieldLink own index own (T j).2.1 (T j).2.2.1 ∈ wsL_law ∧ (T j).1 = own ∧
  (∀ k, k < N → parseFieldDescriptor (T k).2.2.1 = some (ty0 k)) ∧ (∀ a, a < N → ∀ b, b < N → a ≠ b → (T a).2.1 ≠ (T b).2.1) ∧ (T j).2.2.2 = true ∧ ty0 j = ty
/-- the row of sessions, of which i are made -/
def n_A (r : Nat → Nat) (i : Nat) (s : State) (H : Heap) : Prop := ∃ (cA : ClassId) (kA : Class) (comp : ClassId), ArrOfT s cA (.object "NoiseEngine$Session") ∧ s.vm.classes[cA]? = some kA ∧ kA.kind = .array comp (.object "NoiseEngine$Session") ∧ s.vm.findClass "NoiseEngine$Session" = some comp ∧ H[r 42]? = some (arrV cA 4 (fun j => if j < i then .ref (r (49 + 17 * j)) else .null))
def n_G (D : va_G) (r : Nat → Nat) (i : Nat) (s : State) (H : Heap) (k : Nat) : Prop := (k = 42 → n_A r i s H) ∧ (k ≠ 42 → mm_at D r mm_M1 s H k)
theorem n_G.kept {D : va_G} {r : Nat → Nat} {i : Nat} {s : State} {H H1 : Heap} {k : Nat} (h : n_G D r i s H k) (hq : H1[r k]? = H[r k]?) : n_G D r i s H1 k :=
  ⟨fun e => by
    obtain ⟨cA, kA, comp, h1, h2, h3, h4, h5⟩ := h.1 e
    subst e
    exact ⟨cA, kA, comp, h1, h2, h3, h4, hq.trans h5⟩, fun e => n_at_kept (h.2 e) hq⟩
theorem n_G.of {D : va_G} {r : Nat → Nat} {i : Nat} {s : State} {H : Heap} {k : Nat} (e : k ≠ 42) (h : mm_at D r mm_M1 s H k) : n_G D r i s H k := ⟨fun q => absurd q e, fun _ => h⟩
theorem arrV_c {cA : ClassId} {n : Nat} {f g : Nat → Value} (h : ∀ j, j < n → f j = g j) : arrV cA n f = arrV cA n g := by
  unfold arrV
  rw [show (fun j : Fin n => f j.val) = fun j => g j.val from funext fun j => h j.val j.isLt]
theorem n_A.at {D : va_G} {r : Nat → Nat} {s : State} {H : Heap} (h : n_A r 4 s H) : mm_at D r mm_M1 s H 42 := by
  obtain ⟨cA, kA, comp, h1, h2, h3, h4, h5⟩ := h
  have e0 : arrV cA 4 (fun j => if j < 4 then .ref (r (49 + 17 * j)) else .null) = arrV cA 4 (mm_av (.object "NoiseEngine$Session") r mm_M1 42) := arrV_c (fun j hj => by
    rw [if_pos hj]
    exact (mm_v3 (mm_ses_ds j hj)).symm)
  rw [e0] at h5
  refine mm_at.ar (ty := .object "NoiseEngine$Session") (n := 4) (wr := true) rfl ⟨⟨_, h5, h1 4 _, (fun q => by cases q), ?_, ?_, ?_, fun _ => ⟨cA, h1, rfl⟩⟩, trivial, fun q => by cases q⟩
  · rw [arrV_size]; exact Nat.le_refl _
  · rw [arrV_size]
  · intro j hj; exact arrV_read _ _ hj
/-- all along a constructor -/
def n_C (p : Program) (c : Code) (cc : ByteArray) (nL : Nat) (own : String) (m : MethodId) (meth : Method) (s : State) (args : Array Value) (D : va_G) (b0 : Nat) (r : Nat → Nat) : Prop :=
  p.tables.exec = Jvm.exec ∧ c.code = cc ∧ c.maxLocals = nL ∧ s.vm.findClass own = some m.cls ∧ (∀ w ∈ wsL_law, w.before args s = true) ∧ va_K D vwCl [] s ∧ meth.locks = false ∧ meth.sig.returnType = none ∧ meth.name = "<init>" ∧ (∀ k, k < 173 → r k = b0 + k) ∧ n_N s
/-- the world as far as it is made: the object k0, and all cells behind it up to cur -/
def n_W (D : va_G) (b0 : Nat) (r : Nat → Nat) (i k0 ci : Nat) (fs : List Value) (cur : Nat) (s : State) (H : Heap) (locs : List Loc) : Prop :=
  (H.size = b0 + cur ∧ k0 < cur) ∧ n_O D r H k0 ci fs ∧ (∀ k, k0 < k → k < cur → n_G D r i s H k) ∧ va_S (fun q => b0 + k0 ≤ q) s.heap H locs
def n_Y (D : va_G) (b0 : Nat) (r : Nat → Nat) (i k0 ci : Nat) (fs : List Value) (cur ci2 : Nat) (s : State) (H : Heap) (locs : List Loc) : Prop :=
  (H.size = b0 + cur + 1 ∧ k0 < cur) ∧ n_O D r H k0 ci fs ∧ (∀ k, k0 < k → k < cur → n_G D r i s H k) ∧ va_S (fun q => b0 + k0 ≤ q) s.heap H locs ∧ n_O D r H cur ci2 (n_bl ci2)
/-- at a constructor's start -/
def n_U (D : va_G) (b0 : Nat) (r : Nat → Nat) (k0 ci : Nat) (pre : Heap → Prop) (U : State) : Prop := va_K D vwCl [] U ∧ n_N U ∧ U.heap.size = b0 + k0 + 1 ∧ n_O D r U.heap k0 ci (n_bl ci) ∧ pre U.heap
def n_rm (fr lo n ms : Nat) : Room := { frames := fr, cells := n, slots := ms, locals := lo }
def n_E (D : va_G) (b0 : Nat) (r : Nat → Nat) (k0 n : Nat) (_ : Unit) (t : State) : Prop := t.heap.size = b0 + k0 + 1 + n ∧ ∀ k, k0 ≤ k → k < k0 + 1 + n → mm_at D r mm_M1 t t.heap k
def n_M (l : Launch) (y : MethodName) (bytes : ByteArray) (maxL fr lo n ms : Nat) (D : va_G) (b0 : Nat) (r : Nat → Nat) (vs : List Value) (k0 ci : Nat) (pre : Heap → Prop) : Prop :=
  Met l y (mm_ws y bytes maxL none) (n_rm fr lo n ms) (va_Pc vs (n_U D b0 r k0 ci pre)) (va_Qv (fun _ : Unit => True) (n_E D b0 r k0 n) (fun q => b0 + k0 ≤ q)) n ms (fun q => b0 + k0 ≤ q)
theorem n_enter {l : Launch} {y : MethodName} {cc : ByteArray} {nL fr lo n ms : Nat} {D : va_G} {b0 : Nat} {r : Nat → Nat} {vs : List Value} {k0 ci : Nat} {pre : Heap → Prop} (hr : ∀ k, k < 173 → r k = b0 + k) (hy : plainName y.cls = true) (hyn : y.name = "<init>") (hn : (lg_sl vs).length ≤ nL)
    (k : ∀ (p : Program) (e : Env) (s : State) (m : MethodId) (args : Array Value) (below : List Frame) (meth : Method) (c : Code), n_C p c cc nL y.cls m meth s args D b0 r → n_W D b0 r 0 k0 ci (n_bl ci) (k0 + 1) s s.heap [] → s.heap.size = b0 + k0 + 1 → pre s.heap → ∀ ls : Array Slot, lv_has ls nL (lv_args 0 vs) →
      W p l e (n_rm fr lo n ms) s m args below meth c s.heap [] 0 0 (MQ below (va_Qv (fun _ : Unit => True) (n_E D b0 r k0 n) (fun q => b0 + k0 ≤ q)) args s n ms (fun q => b0 + k0 ≤ q)) (F0 m 0 ls [])) : n_M l y cc nL fr lo n ms D b0 r vs k0 ci pre := by
  refine Met.ofW (cc := cc) (maxL := nL) (ret := none) hy rfl ?_
  intro p e s m args below meth c s₁ B hml hv
  obtain ⟨rfl, hK, hN, hsz, hO, hp⟩ := hv
  have hts := atoms_spec (ws := mm_ws y cc nL none) B.pre
  rw [lg_entry_eq]
  refine k p e s m _ below meth c ⟨B.exec, B.bytes, hml, findClass_of_methodNamed B.named, fun w hw => hts w (List.mem_cons_of_mem _ hw), hK, B.notSynchronized, B.returns, ?_, hr, hN⟩ ⟨⟨hsz, by omega⟩, hO, fun k q1 q2 => by omega, va_S.rf⟩ hsz hp _ (lv_entry vs hn)
  exact (name_of_methodNamed B.named B.method).1.trans hyn
section NR
variable {p : Program} {l : Launch} {e : Env} {R : Room} {s : State} {m : MethodId} {args : Array Value} {below : List Frame} {meth : Method} {c : Code} {H : Heap} {locs : List Loc} {cells slots : Nat} {Q : State → Prop}
variable {cc : ByteArray} {nL pc : Nat} {own : String} {ls : Array Slot} {rest st : List Value} {D : va_G} {b0 : Nat} {r : Nat → Nat} {i k0 ci cur : Nat} {fs : List Value} {lv : List (Nat × Value)}
theorem n_init (C : n_C p c cc nL own m meth s args D b0 r) {idx : Nat} (hl : lv_has ls nL lv) (hlink : Cond.methodLink own idx objectInit ∈ wsL_law) (h1 : Cond.instanceMethod objectInit ∈ wsL_law) (h2 : Cond.code objectInit ⟨#[0xb1]⟩ 1 none ∈ wsL_law) {a : Nat} (hf : 1 ≤ R.frames ∧ 12 ≤ R.locals) (hdg : decode cc pc = .ok (.invokespecial idx, 3))
    (kk : W p l e R s m args below meth c H locs cells slots Q (F0 m (pc + 3) ls [])) : W p l e R s m args below meth c H locs cells slots Q (F0 m pc ls [.ref a]) := by
  obtain ⟨hx, hb, hml, hown, hts, hK, hlk, hret, hin, hr, hN⟩ := C
  exact W.objInit hx hb hown (hts _ hlink) (hts _ h1) (hts _ h2) rfl (by rw [hml]; exact hl.1) rfl hdg hf.1 hf.2 kk
theorem n_newa (C : n_C p c cc nL own m meth s args D b0 r) (w : n_W D b0 r i k0 ci fs cur s H locs) {atype : ArrayType} {n : Nat} (hs : mm_sh cur = .inl (newarray.typeOf atype, n, true)) (hz : n_z cur) (ht : atype = .byte ∨ atype = .int ∨ atype = .long ∨ atype = .boolean) (ha : Cond.arrayClass (newarray.typeOf atype) ∈ wsL_law) (hn : n ≤ 2000) (hf : cells + 1 ≤ R.cells ∧ slots + n ≤ R.slots) (hdg : decode cc pc = .ok (.newarray atype, 2))
    (kk : ∀ H1 : Heap, n_W D b0 r i k0 ci fs (cur + 1) s H1 locs → W p l e R s m args below meth c H1 locs (cells + 1) (slots + n) Q (F0 m (pc + 2) ls (.ref (r cur) :: rest))) : W p l e R s m args below meth c H locs cells slots Q (F0 m pc ls (.int (nI n) :: rest)) := by
  obtain ⟨hx, hb, hml, hown, hts, hK, hlk, hret, hin, hr, hN⟩ := C
  obtain ⟨⟨w1, w2⟩, w3, w4, w5⟩ := w
  have rc : r cur = b0 + cur := hr cur hz.1
  refine va_newaK hx hb (hts _ ha) rfl hdg rfl (nI_pos (by omega)) (nI_clamp (by omega)) (by rcases ht with rfl | rfl | rfl | rfl <;> simp [newarray.typeOf, componentBytes] <;> omega) hf.1 hf.2 w1 fun H1 cA e1 z1 o1 hAr hNm => ?_
  rw [rc] at kk
  have e0 : mm_av (newarray.typeOf atype) r mm_M1 cur = fun _ => defaultValue (newarray.typeOf atype) := by
    funext j
    rcases ht with rfl | rfl | rfl | rfl <;> simp [newarray.typeOf, mm_av, mm_M1, defaultValue, hz.at]
  have ok : mm_ok (newarray.typeOf atype) mm_M1 cur n := by
    rcases ht with rfl | rfl | rfl | rfl <;> simp [newarray.typeOf, mm_ok, mm_M1, hz.at] <;> decide
  refine kk H1 ⟨⟨by rw [z1]; omega, by omega⟩, w3.kept (o1 _ (by rw [← w1]; exact w3.lt)), fun k q1 q2 => ?_, ⟨Nat.le_trans w5.1 (by omega), fun x h1 h2 => (o1 x (by have := w5.1; omega)).trans (w5.2.1 x h1 h2), w5.2.2⟩⟩
  by_cases hk : k = cur
  · subst hk
    refine n_G.of hz.2.2.2.2 (mm_at.ar hs ⟨⟨_, by rw [rc]; exact e1, hAr n _, (fun q => by cases q), ?_, ?_, ?_, fun _ => ⟨cA, hAr, by rw [e0]⟩⟩, ok, fun q => by cases q⟩)
    · rw [arrV_size]; exact Nat.le_refl _
    · rw [arrV_size]
    · intro j hj
      rw [e0]
      exact arrV_read _ _ hj
  · refine (w4 k q1 (by omega)).kept (o1 _ ?_)
    have := hz.1
    rw [hr k (by omega)]; omega
theorem n_set (C : n_C p c cc nL own m meth s args D b0 r) (w : n_W D b0 r i k0 ci fs cur s H locs) (hk0 : k0 < 173) {H1 : Heap} {fs' : List Value} {ii : Nat} (z : H1.size = H.size) (oq : ∀ q : Nat, q ≠ r k0 → H1[q]? = H[q]?) (hc : cur ≤ 173) (hO : n_O D r H1 k0 ci fs') : n_W D b0 r i k0 ci fs' cur s H1 (locs ++ [⟨r k0, ii⟩]) := by
  obtain ⟨hx, hb, hml, hown, hts, hK, hlk, hret, hin, hr, hN⟩ := C
  obtain ⟨⟨w1, w2⟩, w3, w4, w5⟩ := w
  refine ⟨⟨by rw [z]; exact w1, w2⟩, hO, fun k q1 q2 => (w4 k q1 q2).kept (oq _ ?_), w5.put z oq (by rw [hr k0 hk0]; exact Nat.le_refl _)⟩
  rw [hr k (by omega), hr k0 hk0]; omega
theorem n_putF (C : n_C p c cc nL own m meth s args D b0 r) (w : n_W D b0 r i k0 ci fs cur s H locs) {j index : Nat} {ty : FieldType} (hL : n_Lf own index ci j ty) (hk0 : k0 < 173) (hc : cur ≤ 173) {v : Value} (hl : j < fs.length) (hn : narrow ty v = v) (hfit : fits ty v = true) (hdg : decode cc pc = .ok (.putfield index, 3))
    (kk : ∀ (H1 : Heap) (locs1 : List Loc), n_W D b0 r i k0 ci (fs.set j v) cur s H1 locs1 → W p l e R s m args below meth c H1 locs1 cells slots Q (F0 m (pc + 3) ls rest)) : W p l e R s m args below meth c H locs cells slots Q (F0 m pc ls (v :: .ref (r k0) :: rest)) := by
  obtain ⟨T, N, ty0, hcl, hin2, hj, hlk2, hT, hty, hnm, hfin, hte⟩ := hL
  have C0 := C
  obtain ⟨hx, hb, hml, hown, hts, hK, hlk, hret, hin, hr, hN⟩ := C
  have hap := va_apart (own := own) hts hin2 ty0 hty hnm hK hcl
  obtain ⟨q, h1, cell, q1, q2, q3, q4⟩ := w.2.1
  have hq : q = (own, T, N) := Option.some.inj (h1.symm.trans hcl)
  subst hq
  obtain ⟨hS, hfc, kC, hkC, hkind⟩ := hK.1 ci _ hcl
  obtain ⟨cf, kf, fi, f, hi, hsl⟩ := hS j hj
  have hlay := hts _ (hin2 _ (u_in_lay hj))
  unfold u_lay at hlay
  rw [if_pos hfin] at hlay
  have hst := (u_facts hfc hkC (u_lays hts hin2 hj) hi).1
  have hcf : m.cls = cf := by
    obtain ⟨_, _, c', _, _, _, -, -, hf', -, -, -, hown2, -⟩ := Cond.laysFinal_spec hlay
    have e1 : c' = cf := by have := hi.symm.trans hf'; simp at this; exact this.1.symm
    rw [hT] at hown2
    rw [← e1]; exact Option.some.inj (hown.symm.trans hown2)
  have h6 := u_fits hfc hkC hkind (Or.inr hlay) hi (hty j hj) (by rw [hte]; exact hn) (by rw [hte]; exact hfit)
  refine W.putFinK hx hb hown (hts _ hlk2) (by have h9 := hi; rw [hT] at h9; exact h9) hst hcf hin (by rw [q2]; exact h6) q1 q3 (by rw [hsl]; exact k2_hasslot (q4 j hj)) rfl rfl hdg fun H' e1 e2 e3 => ?_
  rw [hsl] at e1 ⊢
  exact kk H' _ (n_set C0 w hk0 e2 e3 hc ⟨_, hcl, t_OB.to (V := updV (vp_V fs) j v) ⟨_, e1, q2, q3, t_set q4 hap hj v⟩ (fun i _ => vp_updV_set hl v i)⟩)
theorem n_put (C : n_C p c cc nL own m meth s args D b0 r) (w : n_W D b0 r i k0 ci fs cur s H locs) {j index : Nat} {ty : FieldType} (hL : mm_Lw own index ci j ty) (hk0 : k0 < 173) (hc : cur ≤ 173) {v : Value} (hl : j < fs.length) (hn : narrow ty v = v) (hfit : fits ty v = true) (hdg : decode cc pc = .ok (.putfield index, 3))
    (kk : ∀ (H1 : Heap) (locs1 : List Loc), n_W D b0 r i k0 ci (fs.set j v) cur s H1 locs1 → W p l e R s m args below meth c H1 locs1 cells slots Q (F0 m (pc + 3) ls rest)) : W p l e R s m args below meth c H locs cells slots Q (F0 m pc ls (v :: .ref (r k0) :: rest)) := by
  obtain ⟨Cn, T, N, ty0, hcl, hin2, hj, hlk2, hT, hty, hnm, hfin, hte⟩ := hL
  have C0 := C
  obtain ⟨hx, hb, hml, hown, hts, hK, hlk, hret, hin, hr, hN⟩ := C
  have hap := va_apart (own := own) hts hin2 ty0 hty hnm hK hcl
  obtain ⟨q, h1, cell, q1, q2, q3, q4⟩ := w.2.1
  have hq : q = (Cn, T, N) := Option.some.inj (h1.symm.trans hcl)
  subst hq
  obtain ⟨hS, hfc, kC, hkC, hkind⟩ := hK.1 ci _ hcl
  obtain ⟨cf, kf, fi, f, hi, hsl⟩ := hS j hj
  have hlay := hts _ (hin2 _ (u_in_lay hj))
  unfold u_lay at hlay
  rw [if_neg (by rw [hfin]; decide)] at hlay
  have hst := (u_facts hfc hkC (u_lays hts hin2 hj) hi).1
  have h6 := u_store hfc hkC hkind hlay hi (hty j hj) (by rw [hte]; exact hn) (by rw [hte]; exact hfit)
  refine W.putK hx hb (f := f) ⟨hown, hts _ hlk2, ⟨_, _, _, by have h9 := hi; rw [hT] at h9; exact h9⟩, hst⟩ (by rw [q2]; exact h6) q1 q3 (by rw [hsl]; exact k2_hasslot (q4 j hj)) rfl rfl hdg fun H' e1 e2 e3 => ?_
  rw [hsl] at e1 ⊢
  exact kk H' _ (n_set C0 w hk0 e2 e3 hc ⟨_, hcl, t_OB.to (V := updV (vp_V fs) j v) ⟨_, e1, q2, q3, t_set q4 hap hj v⟩ (fun i _ => vp_updV_set hl v i)⟩)
theorem n_get (C : n_C p c cc nL own m meth s args D b0 r) {k j ci2 index : Nat} {gs : List Value} (hL : mm_L own index ci2 j) (ho : n_O D r H k ci2 gs) {v : Value} (hv : vp_V gs j = v) (hdg : decode cc pc = .ok (.getfield index, 3))
    (kk : W p l e R s m args below meth c H locs cells slots Q (F0 m (pc + 3) ls (v :: rest))) : W p l e R s m args below meth c H locs cells slots Q (F0 m pc ls (.ref (r k) :: rest)) := by
  obtain ⟨Cn, T, N, hcl, hin2, hj, hlk2, hT⟩ := hL
  obtain ⟨hx, hb, hml, hown, hts, hK, hlk, hret, hin, hr, hN⟩ := C
  obtain ⟨q, h1, cell, q1, q2, q3, q4⟩ := ho
  have hq : q = (Cn, T, N) := Option.some.inj (h1.symm.trans hcl)
  subst hq
  obtain ⟨hS, hfc, kC, hkC, hkind⟩ := hK.1 ci2 _ hcl
  obtain ⟨cf, kf, fi, f, hi, hsl⟩ := hS j hj
  refine W.getf hx hb hown (hts _ hlk2) (by have h9 := hi; rw [hT] at h9; exact h9) (u_facts hfc hkC (u_lays hts hin2 hj) hi).1 q1 (by rw [q3]; exact fun h => by cases h) (v := v) ?_ rfl rfl hdg kk
  rw [hsl, q4 j hj]
  exact congrArg some hv
theorem n_new (C : n_C p c cc nL own m meth s args D b0 r) (w : n_W D b0 r i k0 ci fs cur s H locs) {ci2 index N : Nat} {q : vw_C} (hk : n_K ci2) (hq : vwCl[ci2]? = some q) (hN : q.2.2 = N) (hcl : Cond.classLink own index q.1 ∈ wsL_law) (hc : cur < 173) (hf : cells + 1 ≤ R.cells ∧ slots + N ≤ R.slots) (hdg : decode cc pc = .ok (.new index, 3))
    (kk : ∀ H1 : Heap, n_Y D b0 r i k0 ci fs cur ci2 s H1 locs → W p l e R s m args below meth c H1 locs (cells + 1) (slots + N) Q (F0 m (pc + 3) ls (.ref (r cur) :: rest))) : W p l e R s m args below meth c H locs cells slots Q (F0 m pc ls rest) := by
  obtain ⟨Cn, T, N', ty0, k1, k2, k3, k4, k5, k6⟩ := hk
  have e0 : q = (Cn, T, N') := Option.some.inj (hq.symm.trans k1)
  subst e0
  dsimp only at hN
  subst hN
  obtain ⟨hx, hb, hml, hown, hts, hK, hlk, hret, hin, hr, hNn⟩ := C
  obtain ⟨⟨w1, w2⟩, w3, w4, w5⟩ := w
  have rc : r cur = b0 + cur := hr cur hc
  have hKn := hK.1 ci2 _ k1
  refine W.newcK hx hb hown (hts _ hcl) (hts _ k5) (hts _ k6) rfl hdg hf.1 hf.2 hKn.2.1 w1 fun H1 kC hkC e1 z1 o1 => ?_
  rw [rc] at kk
  refine kk H1 ⟨⟨z1, w2⟩, w3.kept (o1 _ (by rw [← w1]; exact w3.lt)), fun k q1 q2 => (w4 k q1 q2).kept (o1 _ ?_), ⟨Nat.le_trans w5.1 (by omega), fun x h1 h2 => (o1 x (by have := w5.1; omega)).trans (w5.2.1 x h1 h2), w5.2.2⟩, ⟨_, k1, ?_⟩⟩
  · rw [hr k (by omega)]; omega
  · rw [rc]
    exact (u_born ty0 hts k2 hKn hkC e1 k3).to k4
theorem n_blind {vs : List Value} {k0 ci : Nat} {pre : Heap → Prop} : FrameBlind (va_Pc vs (n_U D b0 r k0 ci pre)) := fun a U g mk q => ⟨q.1, q.2.1.moved (u := U) (U := U.calling g mk a) (Vm.Alike.refl U.vm), q.2.2.1.same rfl, q.2.2.2.1, q.2.2.2.2.1, q.2.2.2.2.2⟩
/-- behind a constructor's call -/
theorem n_back {ci2 n : Nat} (C : n_C p c cc nL own m meth s args D b0 r) (w : n_Y D b0 r i k0 ci fs cur ci2 s H locs) (hc : cur + n < 173) (h42 : cur + n < 42 ∨ 42 < cur) {t : State} {H1 : Heap} {locs1 : List Loc} (ht : t.heap = H1) (hvm : s.vm.Alike t.vm) (hB : n_E D b0 r cur n () t) (ho : ∀ q : Nat, q < H.size → ¬ b0 + cur ≤ q → H1[q]? = H[q]?) (hS : va_S (fun q => b0 + k0 ≤ q) s.heap H1 locs1) : n_W D b0 r i k0 ci fs (cur + 1 + n) s H1 locs1 := by
  obtain ⟨hx, hb, hml, hown, hts, hK, hlk, hret, hin, hr, hN⟩ := C
  obtain ⟨⟨w1, w2⟩, w3, w4, w5, w6⟩ := w
  subst ht
  refine ⟨⟨by rw [hB.1]; omega, by omega⟩, w3.kept (ho _ w3.lt (by rw [hr k0 (by omega)]; omega)), fun k q1 q2 => ?_, hS⟩
  by_cases hk : k < cur
  · refine (w4 k q1 hk).kept (ho _ ?_ ?_)
    · rw [hr k (by omega), w1]; omega
    · rw [hr k (by omega)]; omega
  · exact n_G.of (by omega) ((hB.2 k (by omega) (by omega)).moved hvm.symm)
theorem n_call {ci2 n ms fr lo maxL index na : Nat} {y : MethodName} {bytes : ByteArray} {As : List Value} {pre : Heap → Prop} (C : n_C p c cc nL own m meth s args D b0 r) (w : n_Y D b0 r i k0 ci fs cur ci2 s H locs) (hl : lv_has ls nL lv) (hc : cur + n < 173) (h42 : cur + n < 42 ∨ 42 < cur) (hM : n_M l y bytes maxL fr lo n ms D b0 r (.ref (r cur) :: As) cur ci2 pre) (hp : pre H) (h1 : Cond.methodLink own index y ∈ wsL_law) (h2 : Cond.instanceMethod y ∈ wsL_law) (h3 : Cond.initialized y.cls ∈ wsL_law) (h4 : Cond.code y bytes maxL none ∈ wsL_law) (h5 : y.cls ≠ "java/lang/invoke/MethodHandle" ∧ y.cls ≠ "java/lang/invoke/VarHandle" ∧ (parseMethodDescriptor y.desc).map (fun d => d.parameters.length) = some na) (hyn : y.name = "<init>") (hn : As.length = na) (hst : st = As.reverse ++ .ref (r cur) :: rest) (hW : (rest.map fun v => v.category).sum ≤ 8) (hR : fr + 1 ≤ R.frames ∧ 8 + (maxL + 11) + lo ≤ R.locals) (hf : cells + n ≤ R.cells ∧ slots + ms ≤ R.slots) (hdg : decode cc pc = .ok (.invokespecial index, 3))
    (kk : ∀ (H1 : Heap) (locs1 : List Loc), n_W D b0 r i k0 ci fs (cur + 1 + n) s H1 locs1 → W p l e R s m args below meth c H1 locs1 (cells + n) (slots + ms) Q (F0 m (pc + 3) ls rest)) : W p l e R s m args below meth c H locs cells slots Q (F0 m pc ls st) := by
  have C0 := C
  obtain ⟨hx, hb, hml, hown, hts, hK, hlk, hret, hin, hr, hN⟩ := C
  have cw : CallB R s args own index y bytes maxL none (mm_ws y bytes maxL none) (n_rm fr lo n ms) n ms na ∧ y.name = "<init>" ∧ (Cond.instanceMethod y).before args s = true := ⟨callB_of na hts (mm_goodW h4) rfl rfl rfl (hts _ h3) (hts _ h1) h5 hR, hyn, hts _ h2⟩
  exact va_callv (va_runI (As := As) (rest := rest) (b := r cur) ⟨hx, hb, hml, hown, hts⟩ hM cw ⟨n_blind, fun U hU hW => ⟨rfl, hK.moved hW.alike, hN.warm hW, by rw [hU]; exact w.1.1, by rw [hU]; exact w.2.2.2.2, by rw [hU]; exact hp⟩⟩ rfl hn hl.1 hst (lv_room hW) hdg hf) w.2.2.2.1 (fun q _ h => Nat.le_trans (by have := w.1.2; omega) h) (fun q h => Nat.le_trans (by have := w.1.2; omega) h) (fun u t H1 locs1 ht hvm _ hB _ ho hS => kk H1 locs1 (n_back C0 w hc h42 ht hvm hB ho hS))
theorem n_callN {ci2 n ms fr lo maxL index na : Nat} {y : MethodName} {host : String} {bytes : ByteArray} {As : List Value} {pre : Heap → Prop} (C : n_C p c cc nL own m meth s args D b0 r) (w : n_Y D b0 r i k0 ci fs cur ci2 s H locs) (hl : lv_has ls nL lv) (hc : cur + n < 173) (h42 : cur + n < 42 ∨ 42 < cur) (hM : n_M l y bytes maxL fr lo n ms D b0 r (.ref (r cur) :: As) cur ci2 pre) (hp : pre H) (h1 : va_Nw (.methodLinkNest own index y host) s) (h2 : Cond.instanceMethod y ∈ wsL_law) (h3 : Cond.initialized y.cls ∈ wsL_law) (h4 : Cond.code y bytes maxL none ∈ wsL_law) (h5 : y.cls ≠ "java/lang/invoke/MethodHandle" ∧ y.cls ≠ "java/lang/invoke/VarHandle" ∧ (parseMethodDescriptor y.desc).map (fun d => d.parameters.length) = some na) (hyn : y.name = "<init>") (hn : As.length = na) (hst : st = As.reverse ++ .ref (r cur) :: rest) (hW : (rest.map fun v => v.category).sum ≤ 8) (hR : fr + 1 ≤ R.frames ∧ 8 + (maxL + 11) + lo ≤ R.locals) (hf : cells + n ≤ R.cells ∧ slots + ms ≤ R.slots) (hdg : decode cc pc = .ok (.invokespecial index, 3))
    (kk : ∀ (H1 : Heap) (locs1 : List Loc), n_W D b0 r i k0 ci fs (cur + 1 + n) s H1 locs1 → W p l e R s m args below meth c H1 locs1 (cells + n) (slots + ms) Q (F0 m (pc + 3) ls rest)) : W p l e R s m args below meth c H locs cells slots Q (F0 m pc ls st) := by
  have C0 := C
  obtain ⟨hx, hb, hml, hown, hts, hK, hlk, hret, hin, hr, hN⟩ := C
  have cw : va_CN R s args own index y host bytes maxL none (mm_ws y bytes maxL none) (n_rm fr lo n ms) n ms na ∧ y.name = "<init>" ∧ (Cond.instanceMethod y).before args s = true := ⟨va_cnB na hts (mm_goodW h4) rfl rfl rfl h1 (hts _ h3) h5 hR, hyn, hts _ h2⟩
  exact va_callv (va_runIN (As := As) (rest := rest) (b := r cur) ⟨hx, hb, hml, hown, hts⟩ hM cw ⟨n_blind, fun U hU hW => ⟨rfl, hK.moved hW.alike, hN.warm hW, by rw [hU]; exact w.1.1, by rw [hU]; exact w.2.2.2.2, by rw [hU]; exact hp⟩⟩ rfl hn hl.1 hst (lv_room hW) hdg hf) w.2.2.2.1 (fun q _ h => Nat.le_trans (by have := w.1.2; omega) h) (fun q h => Nat.le_trans (by have := w.1.2; omega) h) (fun u t H1 locs1 ht hvm _ hB _ ho hS => kk H1 locs1 (n_back C0 w hc h42 ht hvm hB ho hS))
theorem n_ret {n ms : Nat} {q : vw_C} (C : n_C p c cc nL own m meth s args D b0 r) (w : n_W D b0 r i k0 ci fs cur s H locs) (hq : vwCl[ci]? = some q) (hs : mm_sh k0 = .inr ci) (hv : ∀ j, j < q.2.2 → vp_V fs j = mm_v r mm_M1 k0 j (mm_ds k0 j)) (ho : mm_okf ci mm_M1 k0) (hn : cur = k0 + 1 + n) (h42 : cur ≤ 42 ∨ 42 < k0 ∨ i = 4) (h1 : cells ≤ n) (h2 : slots ≤ ms) (hdg : decode cc pc = .ok (.return_, 1)) : W p l e R s m args below meth c H locs cells slots (MQ below (va_Qv (fun _ : Unit => True) (n_E D b0 r k0 n) (fun q => b0 + k0 ≤ q)) args s n ms (fun q => b0 + k0 ≤ q)) (F0 m pc ls []) := by
  obtain ⟨hx, hb, hml, hown, hts, hK, hlk, hret, hin, hr, hN⟩ := C
  obtain ⟨⟨w1, w2⟩, w3, w4, w5⟩ := w
  subst hn
  refine W.widen h1 h2 ?_
  refine W.vret hx hb hret (fun t ht hW => ⟨⟨(), rfl, trivial, ⟨by rw [ht, w1]; omega, fun k q1 q2 => ?_⟩⟩, w5.F ht⟩) w5.2.2 hdg
  rw [ht]
  by_cases hk : k = k0
  · subst hk
    unfold mm_at
    rw [hs]
    obtain ⟨q', h1, h2⟩ := w3
    rw [hq] at h1
    cases h1
    exact ⟨q, hq, h2.to hv, ho⟩
  · by_cases h : k = 42
    · subst h
      have hi : i = 4 := by omega
      subst hi
      exact (n_A.at ((w4 42 (by omega) (by omega)).1 rfl)).moved hW.alike
    · exact ((w4 k (by omega) (by omega)).2 h).moved hW.alike
end NR

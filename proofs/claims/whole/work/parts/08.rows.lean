/-! The system's cells by number: one picture of all of them, and a row an instruction over it. -/
def mm_w (M : mm_M) (k j : Nat) (v : Int32) : mm_M := (fun a b => if a = k ∧ b = j then v else M.1 a b, M.2)
def mm_wl (M : mm_M) (k j : Nat) (v : Int64) : mm_M := (M.1, fun a b => if a = k ∧ b = j then v else M.2 a b)
def mm_v (r : Nat → Nat) (M : mm_M) (k j : Nat) (d : Nat) : Value := match d with
  | 0 => .int (M.1 k j)
  | 1 => .long (M.2 k j)
  | 2 => .null
  | n + 3 => .ref (r n)
def mm_av (ty : FieldType) (r : Nat → Nat) (M : mm_M) (k j : Nat) : Value := match ty with
  | .long => .long (M.2 k j)
  | .object _ => mm_v r M k j (mm_ds k j)
  | .array _ => mm_v r M k j (mm_ds k j)
  | _ => .int (M.1 k j)
def mm_ok (ty : FieldType) (M : mm_M) (k n : Nat) : Prop := match ty with
  | .byte => ∀ j, j < n → (M.1 k j).toInt8.toInt32 = M.1 k j
  | .boolean => ∀ j, j < n → (M.1 k j = 0 ∨ M.1 k j = 1)
  | _ => True
def mm_ar (r : Nat → Nat) (M : mm_M) (U : State) (H : Heap) (k : Nat) (ty : FieldType) (n : Nat) (wr : Bool) : Prop :=
  (∃ cell : Cell, H[r k]? = some cell ∧ U.isArrayOf cell ty ∧ cell.vm ≠ .unknown ∧ n ≤ cell.slots.size ∧ cell.slots.size.toInt32 = Int32.ofNat n ∧ (∀ j, j < n → cell.slots[j]? = some (mm_av ty r M k j)) ∧ (wr = true → ∃ cA, ArrOfT U cA ty ∧ cell = arrV cA n (mm_av ty r M k))) ∧ mm_ok ty M k n ∧ (wr = false → ∀ j, j < n → M.1 k j = mm_tab k j)
/-- booleans of objects: CipherState's keyed, Session's initiator -/
def mm_okf (ci : Nat) (M : mm_M) (k : Nat) : Prop := (ci = 2 → M.1 k 3 = 0 ∨ M.1 k 3 = 1) ∧ (ci = 6 → M.1 k 9 = 0 ∨ M.1 k 9 = 1)
def mm_nb (ci j : Nat) : Bool := !(ci == 2 && j == 3) && !(ci == 6 && j == 9)
def mm_at (D : va_G) (r : Nat → Nat) (M : mm_M) (U : State) (H : Heap) (k : Nat) : Prop := match mm_sh k with
  | .inl (ty, n, wr) => mm_ar r M U H k ty n wr
  | .inr ci => ∃ q : vw_C, vwCl[ci]? = some q ∧ t_OB (r k) (D.1 ci) q.2.2 (D.2 ci) H (fun j => mm_v r M k j (mm_ds k j)) ∧ mm_okf ci M k
def mm_G (D : va_G) (r : Nat → Nat) (M : mm_M) (U : State) (H : Heap) : Prop := ∀ k, k < 181 → mm_at D r M U H k
/-- the addresses: what may be written lies from b0 on, each at its own place; what may not lies below -/
def mm_R (b0 : Nat) (r : Nat → Nat) : Prop := (∀ k, k < 173 → b0 ≤ r k) ∧ (∀ k, 173 ≤ k → k < 181 → r k < b0) ∧ ∀ j k, j < 173 → k < 173 → r j = r k → j = k
theorem mm_R.ne {b0 : Nat} {r : Nat → Nat} (h : mm_R b0 r) {j k : Nat} (hj : j < 181) (hk : k < 173) (hn : j ≠ k) : r j ≠ r k := by
  intro e
  rcases Nat.lt_or_ge j 173 with q | q
  · exact hn (h.2.2 j k q hk e)
  · have := h.2.1 j q hj
    have := h.1 k hk
    omega
def mm_txt : List Int32 := [78, 111, 105, 115, 101, 95, 88, 88, 95, 50, 53, 53, 49, 57, 95, 67, 104, 97, 67, 104, 97, 80, 111, 108, 121, 95, 83, 72, 65, 50, 53, 54]
def mm_Z (b0 : Nat) (r : Nat → Nat) (U : State) (H : Heap) : Prop :=
  va_Z "NoiseEngine$Curve25519" "BASE" "[B" (.ref (r 173)) (fun q => b0 ≤ q) U H ∧ va_Z "NoiseEngine$Curve25519" "LIMB_AT" "[I" (.ref (r 174)) (fun q => b0 ≤ q) U H ∧
  va_Z "NoiseEngine$Sha256" "FIRST_CHAIN" "[I" (.ref (r 175)) (fun q => b0 ≤ q) U H ∧ va_Z "NoiseEngine$Sha256" "ROUNDS" "[I" (.ref (r 176)) (fun q => b0 ≤ q) U H ∧
  va_Z "NoiseEngine$Hmac" "COUNTERS" "[B" (.ref (r 177)) (fun q => b0 ≤ q) U H ∧ va_Z "NoiseEngine$CipherState" "NOTHING" "[B" (.ref (r 178)) (fun q => b0 ≤ q) U H ∧
  va_Z "NoiseEngine$CipherState" "ZEROS" "[B" (.ref (r 179)) (fun q => b0 ≤ q) U H ∧ va_Z "NoiseEngine$Session" "SHORTEST" "[I" (.ref (r 180)) (fun q => b0 ≤ q) U H ∧
  va_Z "java/lang/String" "COMPACT_STRINGS" "Z" (.int 1) (fun q => b0 ≤ q) U H ∧ va_Zq "jdk/internal/util/Preconditions" "SIOOBE_FORMATTER" "Ljava/util/function/BiFunction;" (fun q => b0 ≤ q) U H ∧ vk_S 1 [32] [mm_txt] (fun _ => r 182) (fun _ => r 181) (fun q => b0 ≤ q) U H
theorem mm_Z.moved {b0 : Nat} {r : Nat → Nat} {u U : State} {H : Heap} (hvm : u.vm.Alike U.vm) (h : mm_Z b0 r u H) : mm_Z b0 r U H :=
  ⟨h.1.moved hvm, h.2.1.moved hvm, h.2.2.1.moved hvm, h.2.2.2.1.moved hvm, h.2.2.2.2.1.moved hvm, h.2.2.2.2.2.1.moved hvm, h.2.2.2.2.2.2.1.moved hvm, h.2.2.2.2.2.2.2.1.moved hvm, h.2.2.2.2.2.2.2.2.1.moved hvm, h.2.2.2.2.2.2.2.2.2.1.moved hvm, h.2.2.2.2.2.2.2.2.2.2.moved hvm⟩
theorem mm_Z.kept {b0 : Nat} {r : Nat → Nat} {U : State} {H H1 : Heap} (h : mm_Z b0 r U H) (hq : ∀ a : Nat, a < H.size → ¬ b0 ≤ a → H1[a]? = H[a]?) : mm_Z b0 r U H1 :=
  ⟨h.1.kept hq, h.2.1.kept hq, h.2.2.1.kept hq, h.2.2.2.1.kept hq, h.2.2.2.2.1.kept hq, h.2.2.2.2.2.1.kept hq, h.2.2.2.2.2.2.1.kept hq, h.2.2.2.2.2.2.2.1.kept hq, h.2.2.2.2.2.2.2.2.1.kept hq, h.2.2.2.2.2.2.2.2.2.1.kept hq, h.2.2.2.2.2.2.2.2.2.2.kept hq⟩
/-- links between classes of one nest, which no word list carries -/
def mm_N (r : Nat → Nat) (U : State) : Prop := va_Nw (.fieldLinkNest RX10 99 "NoiseEngine$CipherState" "NOTHING" "[B" "NoiseEngine") U ∧ va_Nw (.fieldLinkNest RX7 123 "NoiseEngine$CipherState" "NOTHING" "[B" "NoiseEngine") U ∧ vk_R RX10 43 "Noise_XX_25519_ChaChaPoly_SHA256" (r 182) U ∧ vk_R RX12 402 "Noise_XX_25519_ChaChaPoly_SHA256" (r 182) U
theorem mm_N.warm {r : Nat → Nat} {s U : State} (hW : s.WarmedH U.vm) (h : mm_N r s) : mm_N r U := ⟨h.1.warmF hW, h.2.1.warmF hW, h.2.2.1.warm hW, h.2.2.2.warm hW⟩
theorem mm_N.same {r : Nat → Nat} {s U : State} (hv : s.vm = U.vm) (h : mm_N r s) : mm_N r U := ⟨h.1.same rfl hv, h.2.1.same rfl hv, h.2.2.1.same hv.symm, h.2.2.2.same hv.symm⟩
/-- the whole world at a state -/
def mm_U (D : va_G) (b0 : Nat) (r : Nat → Nat) (M : mm_M) (U : State) : Prop := mm_R b0 r ∧ va_K D vwCl [] U ∧ mm_Z b0 r U U.heap ∧ mm_G D r M U U.heap ∧ mm_N r U
theorem mm_ar.moved {r : Nat → Nat} {M : mm_M} {u U : State} {H : Heap} {k n : Nat} {ty : FieldType} {wr : Bool} (hvm : u.vm.Alike U.vm) (h : mm_ar r M u H k ty n wr) : mm_ar r M U H k ty n wr := by
  obtain ⟨⟨cell, h1, h2, h3, h4, h5, h6, h7⟩, h8⟩ := h
  exact ⟨⟨cell, h1, State.isArrayOf_alike hvm h2, h3, h4, h5, h6, fun q => (h7 q).elim fun cA z => ⟨cA, arrOfT_moved hvm z.1, z.2⟩⟩, h8⟩
theorem mm_at.moved {D : va_G} {r : Nat → Nat} {M : mm_M} {u U : State} {H : Heap} {k : Nat} (hvm : u.vm.Alike U.vm) (h : mm_at D r M u H k) : mm_at D r M U H k := by
  unfold mm_at at h ⊢
  split at h
  · exact h.moved hvm
  · exact h
theorem mm_G.moved {D : va_G} {r : Nat → Nat} {M : mm_M} {u U : State} {H : Heap} (hvm : u.vm.Alike U.vm) (h : mm_G D r M u H) : mm_G D r M U H := fun k hk => (h k hk).moved hvm
theorem mm_U.moved {D : va_G} {b0 : Nat} {r : Nat → Nat} {M : mm_M} {u U : State} (hv : u.vm = U.vm) (hh : U.heap = u.heap) (h : mm_U D b0 r M u) : mm_U D b0 r M U := by
  have hvm : u.vm.Alike U.vm := by rw [← hv]; exact Vm.Alike.refl _
  refine ⟨h.1, h.2.1.moved hvm, ?_, ?_, h.2.2.2.2.same hv⟩
  · rw [hh]; exact h.2.2.1.moved hvm
  · rw [hh]; exact h.2.2.2.1.moved hvm
/-- what holds all along a method's walk -/
def mm_C (p : Program) (c : Code) (cc : ByteArray) (nL : Nat) (own : String) (m : MethodId) (meth : Method) (ret : Option FieldType) (s : State) (args : Array Value) (D : va_G) (b0 : Nat) (r : Nat → Nat) : Prop :=
  p.tables.exec = Jvm.exec ∧ c.code = cc ∧ c.maxLocals = nL ∧ s.vm.findClass own = some m.cls ∧ (∀ w ∈ wsL_law, w.before args s = true) ∧ va_K D vwCl [] s ∧ mm_R b0 r ∧ mm_Z b0 r s s.heap ∧ meth.locks = false ∧ meth.sig.returnType = ret ∧ mm_N r s
/-- the world now -/
def mm_W (D : va_G) (b0 : Nat) (r : Nat → Nat) (M : mm_M) (s : State) (H : Heap) (locs : List Loc) : Prop := mm_G D r M s H ∧ va_S (fun q => b0 ≤ q) s.heap H locs
def mm_ws (y : MethodName) (bytes : ByteArray) (maxL : Nat) (ret : Option FieldType) : List Cond := .code y bytes maxL ret :: wsL_law
def mm_rm (fr lo : Nat) : Room := { frames := fr, cells := 0, slots := 0, locals := lo }
/-- a method's contract: nothing comes back, a number of 32 bits, a reference -/
def mm_Mv (l : Launch) (y : MethodName) (bytes : ByteArray) (maxL fr lo : Nat) (D : va_G) (b0 : Nat) (r : Nat → Nat) (vs : List Value) (M : mm_M) (post : mm_M → Prop) : Prop :=
  Met l y (mm_ws y bytes maxL none) (mm_rm fr lo) (va_Pc vs (mm_U D b0 r M)) (va_Qv post (mm_U D b0 r) (fun q => b0 ≤ q)) 0 0 (fun q => b0 ≤ q)
def mm_Mi (l : Launch) (y : MethodName) (bytes : ByteArray) (maxL : Nat) (ty : FieldType) (fr lo : Nat) (D : va_G) (b0 : Nat) (r : Nat → Nat) (vs : List Value) (M : mm_M) (post : Int32 → mm_M → Prop) : Prop :=
  Met l y (mm_ws y bytes maxL (some ty)) (mm_rm fr lo) (va_Pc vs (mm_U D b0 r M)) (va_Qi post (mm_U D b0 r) (fun q => b0 ≤ q)) 0 0 (fun q => b0 ≤ q)
def mm_Mr (l : Launch) (y : MethodName) (bytes : ByteArray) (maxL : Nat) (ty : FieldType) (fr lo : Nat) (D : va_G) (b0 : Nat) (r : Nat → Nat) (vs : List Value) (M : mm_M) (k : Nat) (post : mm_M → Prop) : Prop :=
  Met l y (mm_ws y bytes maxL (some ty)) (mm_rm fr lo) (va_Pc vs (mm_U D b0 r M)) (va_Qr post (fun M' a t => a = r k ∧ mm_U D b0 r M' t) (fun q => b0 ≤ q)) 0 0 (fun q => b0 ≤ q)
theorem mm_enter {l : Launch} {y : MethodName} {cc : ByteArray} {nL fr lo : Nat} {ret : Option FieldType} {D : va_G} {b0 : Nat} {r : Nat → Nat} {vs : List Value} {M : mm_M} {Qc : Array Value → State → Outcome → State → Prop} (hy : plainName y.cls = true) (hn : (lg_sl vs).length ≤ nL)
    (k : ∀ (p : Program) (e : Env) (s : State) (m : MethodId) (args : Array Value) (below : List Frame) (meth : Method) (c : Code), mm_C p c cc nL y.cls m meth ret s args D b0 r → mm_W D b0 r M s s.heap [] → ∀ ls : Array Slot, lv_has ls nL (lv_args 0 vs) →
      W p l e (mm_rm fr lo) s m args below meth c s.heap [] 0 0 (MQ below Qc args s 0 0 (fun q => b0 ≤ q)) (F0 m 0 ls [])) :
    Met l y (mm_ws y cc nL ret) (mm_rm fr lo) (va_Pc vs (mm_U D b0 r M)) Qc 0 0 (fun q => b0 ≤ q) := by
  refine Met.ofW (cc := cc) (maxL := nL) (ret := ret) hy rfl ?_
  intro p e s m args below meth c s₁ B hml hv
  obtain ⟨rfl, hR, hK, hZ, hG, hN⟩ := hv
  have hts := atoms_spec (ws := mm_ws y cc nL ret) B.pre
  rw [lg_entry_eq]
  exact k p e s m _ below meth c ⟨B.exec, B.bytes, hml, findClass_of_methodNamed B.named, fun w hw => hts w (List.mem_cons_of_mem _ hw), hK, hR, hZ, B.notSynchronized, B.returns, hN⟩ ⟨hG, va_S.rf⟩ _ (lv_entry vs hn)
section MR
variable {p : Program} {l : Launch} {e : Env} {R : Room} {s : State} {m : MethodId} {args : Array Value} {below : List Frame} {meth : Method} {c : Code} {H : Heap} {locs : List Loc} {cells slots : Nat} {Q : State → Prop}
variable {cc : ByteArray} {nL pc : Nat} {own : String} {ret : Option FieldType} {ls : Array Slot} {rest : List Value} {D : va_G} {b0 : Nat} {r : Nat → Nat} {M : mm_M}
theorem m_i {x y : Int32} (h : x = y) (k : W p l e R s m args below meth c H locs cells slots Q (F0 m pc ls (.int y :: rest))) : W p l e R s m args below meth c H locs cells slots Q (F0 m pc ls (.int x :: rest)) := by rw [h]; exact k
theorem m_l {x y : Int64} (h : x = y) (k : W p l e R s m args below meth c H locs cells slots Q (F0 m pc ls (.long y :: rest))) : W p l e R s m args below meth c H locs cells slots Q (F0 m pc ls (.long x :: rest)) := by rw [h]; exact k
theorem m_w {M' : mm_M} (h : M = M') (w : mm_W D b0 r M s H locs) : mm_W D b0 r M' s H locs := h ▸ w
theorem m_ends {M : mm_M} (w : mm_W D b0 r M s H locs) (C : mm_C p c cc nL own m meth ret s args D b0 r) {t : State} (ht : t.heap = H) (hW : s.WarmedH t.vm) : mm_U D b0 r M t ∧ va_F (fun q => b0 ≤ q) s t := by
  obtain ⟨hx, hb, hml, hown, hts, hK, hR, hZ, hlk, hret, hN⟩ := C
  refine ⟨⟨hR, hK.moved hW.alike, ?_, ?_, hN.warm hW⟩, w.2.F ht⟩
  · rw [ht]
    exact (hZ.kept (fun a h1 h2 => w.2.2.1 a h1 h2)).moved hW.alike
  · rw [ht]
    exact w.1.moved hW.alike
theorem m_vret {post : mm_M → Prop} (C : mm_C p c cc nL own m meth none s args D b0 r) (w : mm_W D b0 r M s H locs) (hp : post M) (hdg : decode cc pc = .ok (.return_, 1)) : W p l e R s m args below meth c H locs cells slots (MQ below (va_Qv post (mm_U D b0 r) (fun q => b0 ≤ q)) args s cells slots (fun q => b0 ≤ q)) (F0 m pc ls []) := by
  have C0 := C
  obtain ⟨hx, hb, hml, hown, hts, hK, hR, hZ, hlk, hret, hN⟩ := C0
  exact W.vret hx hb hret (fun t ht hW => ⟨⟨M, rfl, hp, (m_ends w C ht hW).1⟩, (m_ends w C ht hW).2⟩) w.2.2.2 hdg
theorem m_iret {post : Int32 → mm_M → Prop} {v : Int32} (C : mm_C p c cc nL own m meth (some .int) s args D b0 r) (w : mm_W D b0 r M s H locs) (hp : post v M) (hdg : decode cc pc = .ok (.ireturn, 1)) : W p l e R s m args below meth c H locs cells slots (MQ below (va_Qi post (mm_U D b0 r) (fun q => b0 ≤ q)) args s cells slots (fun q => b0 ≤ q)) (F0 m pc ls [.int v]) := by
  have C0 := C
  obtain ⟨hx, hb, hml, hown, hts, hK, hR, hZ, hlk, hret, hN⟩ := C0
  exact W.iret hx hb hret (fun t ht hW => ⟨⟨v, M, rfl, hp, (m_ends w C ht hW).1⟩, (m_ends w C ht hW).2⟩) w.2.2.2 hdg
theorem m_zret {post : Int32 → mm_M → Prop} {v : Int32} (C : mm_C p c cc nL own m meth (some .boolean) s args D b0 r) (w : mm_W D b0 r M s H locs) (hv : v = 0 ∨ v = 1) (hp : post v M) (hdg : decode cc pc = .ok (.ireturn, 1)) : W p l e R s m args below meth c H locs cells slots (MQ below (va_Qi post (mm_U D b0 r) (fun q => b0 ≤ q)) args s cells slots (fun q => b0 ≤ q)) (F0 m pc ls [.int v]) := by
  have C0 := C
  obtain ⟨hx, hb, hml, hown, hts, hK, hR, hZ, hlk, hret, hN⟩ := C0
  exact W.zret hx hb hret (by rcases hv with rfl | rfl <;> decide) (fun t ht hW => ⟨⟨v, M, rfl, hp, (m_ends w C ht hW).1⟩, (m_ends w C ht hW).2⟩) w.2.2.2 hdg
theorem m_aret {post : mm_M → Prop} {k : Nat} {ty : FieldType} (C : mm_C p c cc nL own m meth (some (.array ty)) s args D b0 r) (w : mm_W D b0 r M s H locs) (hp : post M) (hdg : decode cc pc = .ok (.areturn, 1)) : W p l e R s m args below meth c H locs cells slots (MQ below (va_Qr post (fun M' a t => a = r k ∧ mm_U D b0 r M' t) (fun q => b0 ≤ q)) args s cells slots (fun q => b0 ≤ q)) (F0 m pc ls [.ref (r k)]) := by
  have C0 := C
  obtain ⟨hx, hb, hml, hown, hts, hK, hR, hZ, hlk, hret, hN⟩ := C0
  exact W.aret hx hb hret (Or.inr ⟨_, rfl⟩) (Or.inr ⟨_, rfl⟩) (fun t ht hW => ⟨⟨M, r k, rfl, hp, rfl, (m_ends w C ht hW).1⟩, (m_ends w C ht hW).2⟩) w.2.2.2 hdg
end MR

section CTOR
def CwC (own : String) (cc : ByteArray) (nL : Nat) (p : Program) (s : State) (m : MethodId) (args : Array Value) (c : Code) (dC : Nat → ClassId) (dI : Nat → Nat → Nat) (dA : Nat → ClassId) (A : Nat → Prop) : Prop :=
  p.tables.exec = Jvm.exec ∧ c.code = cc ∧ c.maxLocals = nL ∧ s.vm.findClass own = some m.cls ∧ (∀ w ∈ m_tbl, w.before args s = true) ∧ va_K (dC, dI) m_cls (m_tys dA) s ∧ ∀ q, s.heap.size ≤ q → A q
/-- a place of a constructor: its locals, its stack, the cells that it knows, what it has made -/
def Cw (l : Launch) (dC : Nat → ClassId) (dI : Nat → Nat → Nat) (p : Program) (e : Env) (s : State) (m : MethodId) (args : Array Value) (below : List Frame) (meth : Method) (c : Code) (A : Nat → Prop) (R : Room) (Z : State → Prop) (nL pc : Nat) (lv : List (Nat × Value)) (st : List Value) (ws : va_W) (cells slots : Nat) : Prop :=
  ∀ (H : Heap) (locs : List Loc) (ls : Array Slot), va_P (dC, dI) m_cls ws H → va_D A ws → va_S A s.heap H locs → lv_has ls nL lv → W p l e R s m args below meth c H locs cells slots Z (F0 m pc ls st)
def vAO (U : State) : Prop := va_AO RX7 U ∧ va_AO RX8 U
theorem vAO_mv : ∀ u U : State, u.vm.Alike U.vm → vAO u → vAO U := fun _ _ h q => ⟨q.1.moved h, q.2.moved h⟩
/-- a constructor's contract: of the cells w0 it makes w1, with mc new cells of ms slots; V: what it needs of the tables besides -/
def Ct (V : State → Prop) (l : Launch) (dC : Nat → ClassId) (dI : Nat → Nat → Nat) (dA : Nat → ClassId) (N : MI) (f mc ms : Nat) (av : List Value) (w0 : va_W) (w1 : (Nat → Nat) → va_W) : Prop :=
  ∀ sz : Nat, Met l N.1 (.code N.1 N.2.1 N.2.2.1 none :: m_tbl) ({ frames := f, cells := mc, slots := ms, locals := 64 * f } : Room) (va_Pc av (fun U => U.heap.size = sz ∧ va_P (dC, dI) m_cls w0 U.heap ∧ va_K (dC, dI) m_cls (m_tys dA) U ∧ va_D (fun _ => True) w0 ∧ V U)) (va_Qv (fun _ : Nat → Nat => True) (fun u t => va_P (dC, dI) m_cls (w1 u) t.heap ∧ va_K (dC, dI) m_cls (m_tys dA) t ∧ va_D (va_A w0 sz) (w1 u)) (va_A w0 sz)) mc ms (va_A w0 sz)
def m_FF (own : String) (idx ci k : Nat) (ty : FieldType) : Prop := ∃ (C : String) (T : u_T) (N : Nat) (t : Nat → FieldType), m_cls[ci]? = some (C, T, N) ∧ k < N ∧ (∀ w ∈ u_ws C T N, w ∈ m_tbl) ∧ Cond.fieldLink own idx (T k).1 (T k).2.1 (T k).2.2.1 ∈ m_tbl ∧ (T k).2.2.2 = true ∧ parseFieldDescriptor (T k).2.2.1 = some ty ∧ (∀ k, k < N → parseFieldDescriptor (T k).2.2.1 = some (t k)) ∧ (∀ a, a < N → ∀ b, b < N → a ≠ b → (T a).2.1 ≠ (T b).2.1) ∧ (T k).1 = own
variable {l : Launch} {dC : Nat → ClassId} {dI : Nat → Nat → Nat} {dA : Nat → ClassId} {p : Program} {e : Env} {s : State} {m : MethodId} {args : Array Value} {below : List Frame} {meth : Method} {c : Code} {A : Nat → Prop} {R : Room} {Z : State → Prop} {own : String} {cc : ByteArray} {nL pc : Nat} {lv : List (Nat × Value)} {st : List Value} {ws : va_W} {cells slots : Nat}
theorem cw_aload {k : Fin 4} {i x : Nat} (C : CwC own cc nL p s m args c dC dI dA A) (j : Nat) (hj : lv[j]? = some (i, .ref x)) (hi : (k : Nat) = i) (hd : decode cc pc = .ok (.aload_n k, 1)) (kk : Cw l dC dI p e s m args below meth c A R Z nL (pc + 1) lv (.ref x :: st) ws cells slots) : Cw l dC dI p e s m args below meth c A R Z nL pc lv st ws cells slots := fun H locs ls hP hD hS hl => lv_aload_n C.1 C.2.1 hd hi (lv_at hl j hj) (kk H locs ls hP hD hS hl)
theorem cw_iload {k : Fin 4} {i : Nat} {x : Int32} (C : CwC own cc nL p s m args c dC dI dA A) (j : Nat) (hj : lv[j]? = some (i, .int x)) (hi : (k : Nat) = i) (hd : decode cc pc = .ok (.iload_n k, 1)) (kk : Cw l dC dI p e s m args below meth c A R Z nL (pc + 1) lv (.int x :: st) ws cells slots) : Cw l dC dI p e s m args below meth c A R Z nL pc lv st ws cells slots := fun H locs ls hP hD hS hl => lv_iload_n C.1 C.2.1 hd hi (lv_at hl j hj) (kk H locs ls hP hD hS hl)
theorem cw_iconst {n : Int} (v : Int32) (C : CwC own cc nL p s m args c dC dI dA A) (hd : decode cc pc = .ok (.iconst n, 1)) (hv : Int32.ofInt n = v) (kk : Cw l dC dI p e s m args below meth c A R Z nL (pc + 1) lv (.int v :: st) ws cells slots) : Cw l dC dI p e s m args below meth c A R Z nL pc lv st ws cells slots := fun H locs ls hP hD hS hl => lv_iconst C.1 C.2.1 hd hv (kk H locs ls hP hD hS hl)
theorem cw_bipush {n : Int} (v : Int32) (C : CwC own cc nL p s m args c dC dI dA A) (hd : decode cc pc = .ok (.bipush n, 2)) (hv : (Int8.ofInt n).toInt32 = v) (kk : Cw l dC dI p e s m args below meth c A R Z nL (pc + 2) lv (.int v :: st) ws cells slots) : Cw l dC dI p e s m args below meth c A R Z nL pc lv st ws cells slots := fun H locs ls hP hD hS hl => lv_bipush C.1 C.2.1 hd hv (kk H locs ls hP hD hS hl)
theorem cw_sipush {n : Int} (v : Int32) (C : CwC own cc nL p s m args c dC dI dA A) (hd : decode cc pc = .ok (.sipush n, 3)) (hv : (Int16.ofInt n).toInt32 = v) (kk : Cw l dC dI p e s m args below meth c A R Z nL (pc + 3) lv (.int v :: st) ws cells slots) : Cw l dC dI p e s m args below meth c A R Z nL pc lv st ws cells slots := fun H locs ls hP hD hS hl => lv_sipush C.1 C.2.1 hd hv (kk H locs ls hP hD hS hl)
theorem cw_lconst {n : Fin 2} (v : Int64) (C : CwC own cc nL p s m args c dC dI dA A) (hd : decode cc pc = .ok (.lconst n, 1)) (hv : Int64.ofNat (n : Nat) = v) (kk : Cw l dC dI p e s m args below meth c A R Z nL (pc + 1) lv (.long v :: st) ws cells slots) : Cw l dC dI p e s m args below meth c A R Z nL pc lv st ws cells slots := fun H locs ls hP hD hS hl => lv_lconst C.1 C.2.1 hd hv (kk H locs ls hP hD hS hl)
theorem cw_dup {v : Value} (C : CwC own cc nL p s m args c dC dI dA A) (hv : v.category = 1) (hd : decode cc pc = .ok (.dup, 1)) (kk : Cw l dC dI p e s m args below meth c A R Z nL (pc + 1) lv (v :: v :: st) ws cells slots) : Cw l dC dI p e s m args below meth c A R Z nL pc lv (v :: st) ws cells slots := fun H locs ls hP hD hS hl => lv_dup C.1 C.2.1 hd hv (kk H locs ls hP hD hS hl)
theorem cw_objInit {idx a : Nat} (C : CwC own cc nL p s m args c dC dI dA A) (hlk : Cond.methodLink own idx Lib.objectInit ∈ m_tbl) (hin : Cond.instanceMethod Lib.objectInit ∈ m_tbl) (hco : Cond.code Lib.objectInit ⟨#[0xb1]⟩ 1 none ∈ m_tbl) (hd : decode cc pc = .ok (.invokespecial idx, 3)) (h1 : 1 ≤ R.frames) (h2 : (st.map fun v => v.category).sum + 12 ≤ R.locals) (kk : Cw l dC dI p e s m args below meth c A R Z nL (pc + 3) lv st ws cells slots) : Cw l dC dI p e s m args below meth c A R Z nL pc lv (.ref a :: st) ws cells slots := by
  intro H locs ls hP hD hS hl
  refine W.objInit C.1 C.2.1 C.2.2.2.1 (C.2.2.2.2.1 _ hlk) (C.2.2.2.2.1 _ hin) (C.2.2.2.2.1 _ hco) rfl (by rw [C.2.2.1]; exact hl.1) rfl hd h1 (by show 2 * 0 + _ + 12 ≤ _; omega) ?_
  exact W.eq (g2 := F0 m (pc + 3) ls st) rfl (kk H locs ls hP hD hS hl)
theorem cw_new {idx ci N : Nat} {Cn : String} {T : u_T} (ty : Nat → FieldType) (fs : List Value) (C : CwC own cc nL p s m args c dC dI dA A) (hc : m_cls[ci]? = some (Cn, T, N)) (hin : ∀ w ∈ u_ws Cn T N, w ∈ m_tbl) (hty : ∀ k, k < N → parseFieldDescriptor (T k).2.2.1 = some (ty k)) (hcl : Cond.classLink own idx Cn ∈ m_tbl) (hinst : Cond.instantiable Cn N ∈ m_tbl) (hini : Cond.initialized Cn ∈ m_tbl) (hfs : ∀ j, j < N → defaultValue (ty j) = vp_V fs j) (h1 : cells + 1 ≤ R.cells) (h2 : slots + N ≤ R.slots) (hd : decode cc pc = .ok (.new idx, 3)) (kk : ∀ q, Cw l dC dI p e s m args below meth c A R Z nL (pc + 3) lv (.ref q :: st) (ws ++ [(q, .inr (ci, fs))]) (cells + 1) (slots + N)) : Cw l dC dI p e s m args below meth c A R Z nL pc lv st ws cells slots := by
  intro H locs ls hP hD hS hl
  exact va_new (D := (dC, dI)) C.1 C.2.1 C.2.2.2.2.1 hin ty hty C.2.2.2.1 (C.2.2.2.2.1 _ hcl) (C.2.2.2.2.1 _ hinst) (C.2.2.2.2.1 _ hini) C.2.2.2.2.2.1 hP hD hS C.2.2.2.2.2.2 hc hfs h1 h2 hd (fun q H1 hP hD hS => kk q H1 locs ls hP hD hS hl)
theorem cw_newI {N : Nat} (C : CwC own cc nL p s m args c dC dI dA A) (har : Cond.arrayClass .int ∈ m_tbl) (hN : N < 100000) (h1 : cells + 1 ≤ R.cells) (h2 : slots + N ≤ R.slots) (hd : decode cc pc = .ok (.newarray .int, 2)) (kk : ∀ q, Cw l dC dI p e s m args below meth c A R Z nL (pc + 2) lv (.ref q :: st) (ws ++ [(q, .inl (dA 0, N, .inl (fun _ => 0)))]) (cells + 1) (slots + N)) : Cw l dC dI p e s m args below meth c A R Z nL pc lv (.int (nI N) :: st) ws cells slots := by
  intro H locs ls hP hD hS hl
  refine va_newa (D := (dC, dI)) (atype := .int) (ty := .int) (a0 := (N, .inl (fun _ => 0))) C.1 C.2.1 (C.2.2.2.2.1 _ har) rfl C.2.2.2.2.2.1 hP hD hS C.2.2.2.2.2.2 (fun _ => rfl) (nI_pos (by omega)) (nI_clamp (by omega)) (by show N * 4 ≤ _; omega) h1 h2 hd (fun q cA H1 hK hP hD hS => ?_)
  have e1 : va_RA s cA .int := (hK.2 6 (cA, .int) rfl).2
  have e2 : va_RA s (dA 0) .int := (C.2.2.2.2.2.1.2 0 (dA 0, .int) rfl).2
  have e3 : cA = dA 0 := Option.some.inj (Eq.trans (Eq.symm e1) e2)
  subst e3
  exact kk q H1 locs ls hP hD hS hl
theorem cw_newZ {N : Nat} (C : CwC own cc nL p s m args c dC dI dA A) (har : Cond.arrayClass .boolean ∈ m_tbl) (hN : N < 100000) (h1 : cells + 1 ≤ R.cells) (h2 : slots + N ≤ R.slots) (hd : decode cc pc = .ok (.newarray .boolean, 2)) (kk : ∀ q, Cw l dC dI p e s m args below meth c A R Z nL (pc + 2) lv (.ref q :: st) (ws ++ [(q, .inl (dA 1, N, .inl (fun _ => 0)))]) (cells + 1) (slots + N)) : Cw l dC dI p e s m args below meth c A R Z nL pc lv (.int (nI N) :: st) ws cells slots := by
  intro H locs ls hP hD hS hl
  refine va_newa (D := (dC, dI)) (atype := .boolean) (ty := .boolean) (a0 := (N, .inl (fun _ => 0))) C.1 C.2.1 (C.2.2.2.2.1 _ har) rfl C.2.2.2.2.2.1 hP hD hS C.2.2.2.2.2.2 (fun _ => rfl) (nI_pos (by omega)) (nI_clamp (by omega)) (by show N * 1 ≤ _; omega) h1 h2 hd (fun q cA H1 hK hP hD hS => ?_)
  have e1 : va_RA s cA .boolean := (hK.2 6 (cA, .boolean) rfl).2
  have e2 : va_RA s (dA 1) .boolean := (C.2.2.2.2.2.1.2 1 (dA 1, .boolean) rfl).2
  have e3 : cA = dA 1 := Option.some.inj (Eq.trans (Eq.symm e1) e2)
  subst e3
  exact kk q H1 locs ls hP hD hS hl
theorem cw_newJ {N : Nat} (C : CwC own cc nL p s m args c dC dI dA A) (har : Cond.arrayClass .long ∈ m_tbl) (hN : N < 100000) (h1 : cells + 1 ≤ R.cells) (h2 : slots + N ≤ R.slots) (hd : decode cc pc = .ok (.newarray .long, 2)) (kk : ∀ q, Cw l dC dI p e s m args below meth c A R Z nL (pc + 2) lv (.ref q :: st) (ws ++ [(q, .inl (dA 2, N, .inr (.inl (fun _ => 0))))]) (cells + 1) (slots + N)) : Cw l dC dI p e s m args below meth c A R Z nL pc lv (.int (nI N) :: st) ws cells slots := by
  intro H locs ls hP hD hS hl
  refine va_newa (D := (dC, dI)) (atype := .long) (ty := .long) (a0 := (N, .inr (.inl (fun _ => 0)))) C.1 C.2.1 (C.2.2.2.2.1 _ har) rfl C.2.2.2.2.2.1 hP hD hS C.2.2.2.2.2.2 (fun _ => rfl) (nI_pos (by omega)) (nI_clamp (by omega)) (by show N * 8 ≤ _; omega) h1 h2 hd (fun q cA H1 hK hP hD hS => ?_)
  have e1 : va_RA s cA .long := (hK.2 6 (cA, .long) rfl).2
  have e2 : va_RA s (dA 2) .long := (C.2.2.2.2.2.1.2 2 (dA 2, .long) rfl).2
  have e3 : cA = dA 2 := Option.some.inj (Eq.trans (Eq.symm e1) e2)
  subst e3
  exact kk q H1 locs ls hP hD hS hl
theorem cw_newq {N kd idx : Nat} {Cn : String} (C : CwC own cc nL p s m args c dC dI dA A) (hcl : Cond.classLink own idx Cn ∈ m_tbl) (hov : va_AO Cn s) (hkd : (m_tys dA)[kd]? = some (dA kd, .object Cn)) (hN : N < 100000) (h1 : cells + 1 ≤ R.cells) (h2 : slots + N ≤ R.slots) (hd : decode cc pc = .ok (.anewarray idx, 3)) (kk : ∀ q, Cw l dC dI p e s m args below meth c A R Z nL (pc + 3) lv (.ref q :: st) (ws ++ [(q, .inl (dA kd, N, .inr (.inr (.inr (.inr (fun _ => none))))))]) (cells + 1) (slots + N)) : Cw l dC dI p e s m args below meth c A R Z nL pc lv (.int (nI N) :: st) ws cells slots := by
  intro H locs ls hP hD hS hl
  refine va_newq (D := (dC, dI)) (N' := N) C.1 C.2.1 C.2.2.2.1 (C.2.2.2.2.1 _ hcl) hov C.2.2.2.2.2.1 hP hD hS C.2.2.2.2.2.2 (nI_pos (by omega)) (nI_clamp (by omega)) (by omega) h1 h2 hd (fun q cA H1 hK hP hD hS => ?_)
  obtain ⟨_, _, _, _, _, e1⟩ := (hK.2 6 (cA, .object Cn) rfl).2
  obtain ⟨_, _, _, _, _, e2⟩ := (C.2.2.2.2.2.1.2 kd _ hkd).2
  have e3 : cA = dA kd := Option.some.inj (e1.symm.trans e2)
  subst e3
  exact kk q H1 locs ls hP hD hS hl
theorem cw_put {idx ci k a : Nat} {ty : FieldType} {v : Value} {fs : List Value} {ws' : va_W} (q0 : Nat) (C : CwC own cc nL p s m args c dC dI dA A) (hf : m_FP own idx ci k ty) (he : ws[q0]? = some (a, .inr (ci, fs))) (hn : narrow ty v = v) (hfit : fits ty v = true) (hl0 : k < fs.length) (hw : ws.set q0 (a, .inr (ci, fs.set k v)) = ws') (hd : decode cc pc = .ok (.putfield idx, 3)) (kk : Cw l dC dI p e s m args below meth c A R Z nL (pc + 3) lv st ws' cells slots) : Cw l dC dI p e s m args below meth c A R Z nL pc lv (v :: .ref a :: st) ws cells slots := by
  intro H locs ls hP hD hS hl
  obtain ⟨Cn, T, N, t, hc, hk, hin, hlk, hfin, hpd, hty, hnm⟩ := hf
  subst hw
  exact va_put (D := (dC, dI)) (v := v) (ty := ty) C.1 C.2.1 C.2.2.2.2.1 hin t hty hnm C.2.2.2.1 C.2.2.2.2.2.1 hP hD hS q0 he hc k hk (C.2.2.2.2.1 _ hlk) (fun _ h9 => h9) hfin hpd hn hfit hl0 hd (fun H1 locs1 hP hD hS => kk H1 locs1 ls hP hD hS hl)
theorem cw_putF {idx ci k a : Nat} {ty : FieldType} {v : Value} {fs : List Value} {ws' : va_W} (q0 : Nat) (C : CwC own cc nL p s m args c dC dI dA A) (hin2 : meth.name = "<init>") (hf : m_FF own idx ci k ty) (he : ws[q0]? = some (a, .inr (ci, fs))) (hn : narrow ty v = v) (hfit : fits ty v = true) (hl0 : k < fs.length) (hw : ws.set q0 (a, .inr (ci, fs.set k v)) = ws') (hd : decode cc pc = .ok (.putfield idx, 3)) (kk : Cw l dC dI p e s m args below meth c A R Z nL (pc + 3) lv st ws' cells slots) : Cw l dC dI p e s m args below meth c A R Z nL pc lv (v :: .ref a :: st) ws cells slots := by
  intro H locs ls hP hD hS hl
  obtain ⟨Cn, T, N, t, hc, hk, hin, hlk, hfin, hpd, hty, hnm, hdecl⟩ := hf
  subst hw
  exact va_putF (D := (dC, dI)) (v := v) (ty := ty) C.1 C.2.1 C.2.2.2.2.1 hin t hty hnm C.2.2.2.1 C.2.2.2.2.2.1 hP hD hS q0 he hc k hk (C.2.2.2.2.1 _ hlk) (fun _ h9 => h9) hfin hin2 hdecl hpd hn hfit hl0 hd (fun H1 locs1 hP hD hS => kk H1 locs1 ls hP hD hS hl)
theorem cw_get {idx ci k a : Nat} {v : Value} {fs : List Value} (q0 : Nat) (C : CwC own cc nL p s m args c dC dI dA A) (hf : m_FL own idx ci k) (he : ws[q0]? = some (a, .inr (ci, fs))) (hv : fs[k]? = some v) (hd : decode cc pc = .ok (.getfield idx, 3)) (kk : Cw l dC dI p e s m args below meth c A R Z nL (pc + 3) lv (v :: st) ws cells slots) : Cw l dC dI p e s m args below meth c A R Z nL pc lv (.ref a :: st) ws cells slots := by
  intro H locs ls hP hD hS hl
  obtain ⟨Cn, T, N, hc, hk, hin, hlk⟩ := hf
  exact va_get (D := (dC, dI)) C.1 C.2.1 C.2.2.2.2.1 hin C.2.2.2.1 C.2.2.2.2.2.1 hP q0 he hc k hk (C.2.2.2.2.1 _ hlk) (fun _ h9 => h9) (v := v) hv hd (kk H locs ls hP hD hS hl)
theorem cw_max {idx : Nat} {x y : Int32} (C : CwC own cc nL p s m args c dC dI dA A) (hml : Cond.methodLink own idx Lib.Math.max.name ∈ m_tbl) (h1 : 1 ≤ R.frames) (h2 : (st.map fun v => v.category).sum + 13 ≤ R.locals) (h3 : cells ≤ R.cells) (h4 : slots ≤ R.slots) (hd : decode cc pc = .ok (.invokestatic idx, 3)) (kk : Cw l dC dI p e s m args below meth c A R Z nL (pc + 3) lv (.int (if x < y then y else x) :: st) ws cells slots) : Cw l dC dI p e s m args below meth c A R Z nL pc lv (.int y :: .int x :: st) ws cells slots := by
  intro H locs ls hP hD hS hl
  have hts := C.2.2.2.2.1
  exact va_mmax C.1 C.2.1 (C.2.2.1.trans hl.1.symm) C.2.2.2.1 (hts _ hml) (hts _ m_mx.1) (hts _ m_mx.2.1) (hts _ m_mx.2.2) h1 h2 h3 h4 hd (kk H locs ls hP hD hS hl)
theorem cw_astore {kd ci N a v : Nat} {Cn : String} {T : u_T} {NN : Nat} {vs : List Value} {f : Nat → Option Nat} {i : Int32} {ws' : va_W} (q0 qk : Nat) (C : CwC own cc nL p s m args c dC dI dA A) (hkd : (m_tys dA)[kd]? = some (dA kd, .object Cn)) (ha : ws[q0]? = some (a, .inl (dA kd, N, .inr (.inr (.inr (.inr f)))))) (hv : ws[qk]? = some (v, .inr (ci, vs))) (hc : m_cls[ci]? = some (Cn, T, NN)) (hi : vp_in i N) (hw : ws.set q0 (a, .inl (dA kd, N, .inr (.inr (.inr (.inr (va_up f i.toNatClampNeg (some v))))))) = ws') (hd : decode cc pc = .ok (.aastore, 1)) (kk : Cw l dC dI p e s m args below meth c A R Z nL (pc + 1) lv st ws' cells slots) : Cw l dC dI p e s m args below meth c A R Z nL pc lv (.ref v :: .int i :: .ref a :: st) ws cells slots := by
  intro H locs ls hP hD hS hl
  subst hw
  exact va_astq (D := (dC, dI)) C.1 C.2.1 C.2.2.2.2.2.1 hP hD hS q0 kd qk ci ha hkd hv hc hi hd (fun H1 locs1 hP hD hS => kk H1 locs1 ls hP hD hS hl)
theorem cw_istore {k : Fin 4} {i : Nat} {x : Int32} (lv' : List (Nat × Value)) (C : CwC own cc nL p s m args c dC dI dA A) (hi : (k : Nat) = i) (hn : i < nL) (hl' : (i, Value.int x) :: lv.filter (fun q => !(q.1 == i) && !(q.1 + 1 == i && q.2.category == 2)) = lv') (hd : decode cc pc = .ok (.istore_n k, 1)) (kk : Cw l dC dI p e s m args below meth c A R Z nL (pc + 1) lv' st ws cells slots) : Cw l dC dI p e s m args below meth c A R Z nL pc lv (.int x :: st) ws cells slots := fun H locs ls hP hD hS hl => lv_istore_n (lv' := lv') C.1 C.2.1 hd hi hl hn hl' (fun ls hl => kk H locs ls hP hD hS hl)
theorem cw_iinc {i : Nat} {n : Int} {x : Int32} (v : Int32) (lv' : List (Nat × Value)) (C : CwC own cc nL p s m args c dC dI dA A) (k : Nat) (hk : lv[k]? = some (i, .int x)) (hv : x + Int32.ofInt n = v) (hn : i < nL) (hl' : (i, Value.int v) :: lv.filter (fun q => !(q.1 == i) && !(q.1 + 1 == i && q.2.category == 2)) = lv') (hd : decode cc pc = .ok (.iinc i n, 3)) (kk : Cw l dC dI p e s m args below meth c A R Z nL (pc + 3) lv' st ws cells slots) : Cw l dC dI p e s m args below meth c A R Z nL pc lv st ws cells slots := fun H locs ls hP hD hS hl => lv_iinc (v := v) (lv' := lv') C.1 C.2.1 hd hl (k := k) hk hv hn hl' (fun ls hl => kk H locs ls hP hD hS hl)
theorem cw_goto {off : Int} (tgt : Nat) (C : CwC own cc nL p s m args c dC dI dA A) (hd : decode cc pc = .ok (.goto off, 3)) (ht : (pc : Int) + off = (tgt : Int)) (kk : Cw l dC dI p e s m args below meth c A R Z nL tgt lv st ws cells slots) : Cw l dC dI p e s m args below meth c A R Z nL pc lv st ws cells slots := fun H locs ls hP hD hS hl => lv_goto C.1 C.2.1 hd ht (kk H locs ls hP hD hS hl)
theorem cw_ge_f {off : Int} {x y : Int32} (tgt : Nat) (C : CwC own cc nL p s m args c dC dI dA A) (hxy : ¬ y ≤ x) (hd : decode cc pc = .ok (.if_icmp .ge off, 3)) (ht : (pc : Int) + off = (tgt : Int)) (kk : Cw l dC dI p e s m args below meth c A R Z nL (pc + 3) lv st ws cells slots) : Cw l dC dI p e s m args below meth c A R Z nL pc lv (.int y :: .int x :: st) ws cells slots := fun H locs ls hP hD hS hl => lv_icmp_ge (tgt := tgt) C.1 C.2.1 hd ht (fun z => absurd z hxy) (fun _ => kk H locs ls hP hD hS hl)
theorem cw_ge_t {off : Int} {x y : Int32} (tgt : Nat) (C : CwC own cc nL p s m args c dC dI dA A) (hxy : y ≤ x) (hd : decode cc pc = .ok (.if_icmp .ge off, 3)) (ht : (pc : Int) + off = (tgt : Int)) (kk : Cw l dC dI p e s m args below meth c A R Z nL tgt lv st ws cells slots) : Cw l dC dI p e s m args below meth c A R Z nL pc lv (.int y :: .int x :: st) ws cells slots := fun H locs ls hP hD hS hl => lv_icmp_ge (tgt := tgt) C.1 C.2.1 hd ht (fun _ => kk H locs ls hP hD hS hl) (fun z => absurd hxy z)
theorem fm_of_map {α β : Type} {f : α → Option β} : ∀ {is : List α} {w : List β}, is.map f = w.map some → is.filterMap f = w
  | [], w, h => by
    cases w with
    | nil => rfl
    | cons a b => simp at h
  | i :: is, w, h => by
    cases w with
    | nil => simp at h
    | cons a b =>
      rw [List.map_cons, List.map_cons] at h
      have h1 := (List.cons.inj h).1
      have h2 := (List.cons.inj h).2
      rw [List.filterMap_cons, h1, fm_of_map h2]
theorem cw_sub {ws' : va_W} (is : List Nat) (h2 : is.map (fun i => ws[i]?) = ws'.map some) (hnd : va_nd is = true) (kk : Cw l dC dI p e s m args below meth c A R Z nL pc lv st ws' cells slots) : Cw l dC dI p e s m args below meth c A R Z nL pc lv st ws cells slots := fun H locs ls hP hD hS hl => kk H locs ls (hP.sub is (fm_of_map h2)) (hD.sub is hnd h2) hS hl
theorem cw_call {N : MI} {f mc ms idx n b : Nat} {As : List Value} {w0 wr : va_W} {w1 : (Nat → Nat) → va_W} (isC isR : List Nat) (C : CwC own cc nL p s m args c dC dI dA A) (V : State → Prop) (hV : V s) (hmv : ∀ u U : State, u.vm.Alike U.vm → V u → V U) (hct : Ct V l dC dI dA N f mc ms (.ref b :: As) w0 w1) (hC : isC.map (fun i => ws[i]?) = w0.map some) (hR : isR.map (fun i => ws[i]?) = wr.map some) (hnc : va_nd isC = true) (hnd : va_nd isR = true) (hdis : ∀ i ∈ isR, i ∉ isC) (hml : Cond.methodLink own idx N.1 ∈ m_tbl) (hini : Cond.initialized N.1.cls ∈ m_tbl) (hin : Cond.instanceMethod N.1 ∈ m_tbl) (hco : Cond.code N.1 N.2.1 N.2.2.1 none ∈ m_tbl) (hnm : N.1.name = "<init>") (hdd : N.1.cls ≠ "java/lang/invoke/MethodHandle" ∧ N.1.cls ≠ "java/lang/invoke/VarHandle" ∧ (parseMethodDescriptor N.1.desc).map (fun d => d.parameters.length) = some n) (hn : As.length = n) (h45 : N.2.2.1 ≤ 45) (hR1 : f + 1 ≤ R.frames) (hR2 : 64 * (f + 1) ≤ R.locals) (hroom : (st.map fun v => v.category).sum ≤ 8) (h1 : cells + mc ≤ R.cells) (h2 : slots + ms ≤ R.slots) (hd : decode cc pc = .ok (.invokespecial idx, 3)) {st0 : List Value} (hst : st0 = As.reverse ++ .ref b :: st)
    (kk : ∀ u, Cw l dC dI p e s m args below meth c A R Z nL (pc + 3) lv st (wr ++ w1 u) (cells + mc) (slots + ms)) : Cw l dC dI p e s m args below meth c A R Z nL pc lv st0 ws cells slots := by
  subst hst
  intro H locs ls hP hD hS hl
  obtain ⟨hx, hb, hmax, hown, hts, hK, hA⟩ := id C
  have hC2 : isC.filterMap (fun i => ws[i]?) = w0 := fm_of_map hC
  have hPc := hP.sub isC hC2
  have hDc := hD.sub isC hnc hC
  have hFc := va_free hD hS hA isC hC
  refine va_callv (va_runI (As := As) (rest := st) (nL := nL) (cc := cc) (Ts := m_tbl) (own := own) ⟨hx, hb, hmax, hown, hts⟩ (hct H.size) ⟨callB_of n hts (m_good hco) rfl rfl rfl (hts _ hini) (hts _ hml) hdd ⟨hR1, by show 8 + (N.2.2.1 + 11) + 64 * f ≤ _; omega⟩, hnm, hts _ hin⟩ ⟨fun a U g mk q => by obtain ⟨q0, q1, qP, qK, qD, qV⟩ := q; exact ⟨q0, q1, qP, va_K.moved (u := U) (U := U.calling g mk a) (Vm.Alike.refl U.vm) qK, qD, hmv U (U.calling g mk a) (Vm.Alike.refl U.vm) qV⟩, fun U hU hW => ⟨rfl, by rw [hU], by rw [hU]; exact hPc, va_K.moved hW.alike hK, hDc.weaken (fun _ _ _ _ => trivial), hmv s U hW.alike hV⟩⟩ rfl hn hl.1 rfl (lv_room hroom) hd ⟨h1, h2⟩) hS (fun q _ h => hFc q h) hFc (fun u t H1 locs ht hvm hw hB hz1 hk1 hS => ?_)
  obtain ⟨hP1, hK1, hD1⟩ := hB
  rw [ht] at hP1
  obtain ⟨hP, hD⟩ := va_join (wr := wr) (w1 := w1 u) hP hD isC isR hC hR hnd hdis hk1 hFc hP1 hD1
  exact kk u H1 locs ls hP hD hS hl
theorem ct_start {V : State → Prop} {N : MI} {f mc ms : Nat} {av : List Value} {w0 : va_W} {w1 : (Nat → Nat) → va_W} (hy : plainName N.1.cls = true) (hlen : (lg_sl av).length ≤ N.2.2.1)
    (k : ∀ (p : Program) (e : Env) (s : State) (m : MethodId) (below : List Frame) (meth : Method) (c : Code), V s → CwC N.1.cls N.2.1 N.2.2.1 p s m av.toArray c dC dI dA (va_A w0 s.heap.size) → meth.name = "<init>" → meth.locks = false → meth.sig.returnType = none → Cw l dC dI p e s m av.toArray below meth c (va_A w0 s.heap.size) ({ frames := f, cells := mc, slots := ms, locals := 64 * f } : Room) (MQ below (va_Qv (fun _ : Nat → Nat => True) (fun u t => va_P (dC, dI) m_cls (w1 u) t.heap ∧ va_K (dC, dI) m_cls (m_tys dA) t ∧ va_D (va_A w0 s.heap.size) (w1 u)) (va_A w0 s.heap.size)) av.toArray s mc ms (va_A w0 s.heap.size)) N.2.2.1 0 (lv_args 0 av) [] w0 0 0) (hnm : N.1.name = "<init>") : Ct V l dC dI dA N f mc ms av w0 w1 := by
  intro sz
  refine Met.ofW (cc := N.2.1) (maxL := N.2.2.1) (ret := none) hy rfl ?_
  intro p e s m args below meth c s₁ B hml hv
  obtain ⟨rfl, hsz, hP, hK, hD0, hV⟩ := hv
  subst hsz
  have hts := atoms_spec (ws := .code N.1 N.2.1 N.2.2.1 none :: m_tbl) B.pre
  have hl := lv_entry av (n := N.2.2.1) hlen
  rw [lg_entry_eq]
  generalize (lg_sl av ++ List.replicate (N.2.2.1 - (lg_sl av).length) Slot.unset).toArray = ls at hl ⊢
  exact k p e s m below meth c hV ⟨B.exec, B.bytes, hml, findClass_of_methodNamed B.named, fun w hw => hts w (List.mem_cons_of_mem _ hw), hK, fun q hq => Or.inr hq⟩ ((name_of_methodNamed B.named B.method).1.trans hnm) B.notSynchronized B.returns s.heap [] ls hP (hD0.self (sz := s.heap.size)) va_S.rf hl
theorem cw_ret {av : List Value} {w0 : va_W} {w1 : (Nat → Nat) → va_W} {mc ms : Nat} (u : Nat → Nat) (C : CwC own cc nL p s m av.toArray c dC dI dA (va_A w0 s.heap.size)) (hr : meth.sig.returnType = none) (hlk : meth.locks = false) (hw : ws = w1 u) (h1 : cells = mc) (h2 : slots = ms) (hd : decode cc pc = .ok (.return_, 1)) : Cw l dC dI p e s m av.toArray below meth c (va_A w0 s.heap.size) R (MQ below (va_Qv (fun _ : Nat → Nat => True) (fun u t => va_P (dC, dI) m_cls (w1 u) t.heap ∧ va_K (dC, dI) m_cls (m_tys dA) t ∧ va_D (va_A w0 s.heap.size) (w1 u)) (va_A w0 s.heap.size)) av.toArray s mc ms (va_A w0 s.heap.size)) nL pc lv [] ws cells slots := by
  intro H locs ls hP hD hS hl
  subst h1; subst h2
  rw [hw] at hP hD
  exact W.vret C.1 C.2.1 hr (fun t ht hW => ⟨⟨u, rfl, trivial, by rw [ht]; exact hP, va_K.moved hW.alike C.2.2.2.2.2.1, hD⟩, hS.F ht⟩) hS.2.2 hd hlk
end CTOR

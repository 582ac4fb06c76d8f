section GR3
/-- what the start says of int[][]: its class, over that of int[] -/
theorem gr_over {args : Array Value} {s : State} (h : (Cond.arrayOver (.array .int)).before args s = true) : ∃ cI cA kA, s.vm.findClass (FieldType.array .int).toString = some cI ∧ s.vm.classes[cA]? = some kA ∧ kA.kind = .array cI (.array .int) ∧ s.vm.findClass ("[" ++ (FieldType.array .int).toString) = some cA := by
  simp only [Cond.before, Cond.holds, Cond.value, beq_iff_eq, Option.bind_eq_some_iff, Option.map_eq_some_iff] at h
  obtain ⟨cI, hI, cA, hfind, kA, hA, hkind⟩ := h
  obtain ⟨hlt, hover, -⟩ := Array.findIdx?_eq_some_iff_getElem.mp hfind
  obtain rfl : s.vm.classes[cA] = kA := Option.some.inj ((Array.getElem?_eq_getElem hlt).symm.trans hA)
  split at hkind
  · rename_i over ty hk
    rw [hk] at hover
    have eI : over = cI := eq_of_beq hover
    have hd := (Bool.and_eq_true _ _).mp hkind
    exact ⟨cI, cA, _, hI, hA, by rw [hk, eI, of_decide_eq_true hd.1], of_decide_eq_true hd.2⟩
  · cases hkind
/-- the five cells, as the world's words have them -/
def gr_W (dA : Nat → ClassId) (q : Nat) : va_W := [(q, .inl (dA 5, 4, .inr (.inr (.inr (.inr (fun j => ([q + 1, q + 2, q + 3, q + 4] : List Nat)[j]?)))))), (q + 1, .inl (dA 0, 30, .inl (fun _ => 0))), (q + 2, .inl (dA 0, 30, .inl (fun _ => 0))), (q + 3, .inl (dA 0, 30, .inl (fun _ => 0))), (q + 4, .inl (dA 0, 30, .inl (fun _ => 0)))]
theorem gr_W_at {dA : Nat → ClassId} {q k : Nat} {x : Nat × va_E} (hx : (gr_W dA q)[k]? = some x) : k < 5 ∧ x.1 = q + k := by
  match k, hx with
  | 0, hx => cases hx; exact ⟨by decide, rfl⟩
  | 1, hx => cases hx; exact ⟨by decide, rfl⟩
  | 2, hx => cases hx; exact ⟨by decide, rfl⟩
  | 3, hx => cases hx; exact ⟨by decide, rfl⟩
  | 4, hx => cases hx; exact ⟨by decide, rfl⟩
  | k + 5, hx => cases hx
theorem gr_W_P (D : va_G) (dA : Nat → ClassId) (H : Heap) : va_P D m_cls (gr_W dA H.size) (gr_heap H (dA 5) (dA 0) 4) := by
  intro k x hx
  have hrow : ∀ j, j < 4 → (gr_heap H (dA 5) (dA 0) 4)[H.size + 1 + j]? = some (vp_cell (dA 0) (30, .inl (fun _ => 0))) := fun j hj => gr_in hj
  match k, hx with
  | 0, hx =>
    cases hx
    refine (gr_at H (dA 5) (dA 0) 4).trans (congrArg some (congrArg (arrV (dA 5) 4) (funext fun j => congrArg va_rf ?_)))
    match j with
    | 0 => rfl
    | 1 => rfl
    | 2 => rfl
    | 3 => rfl
    | j + 4 => exact if_neg (by omega)
  | 1, hx => cases hx; exact hrow 0 (by decide)
  | 2, hx => cases hx; exact hrow 1 (by decide)
  | 3, hx => cases hx; exact hrow 2 (by decide)
  | 4, hx => cases hx; exact hrow 3 (by decide)
  | k + 5, hx => cases hx
theorem gr_W_D {A : Nat → Prop} (dA : Nat → ClassId) {q : Nat} (hA : ∀ a, q ≤ a → A a) : va_D A (gr_W dA q) :=
  ⟨fun i j x y hx hy e => by have h1 := (gr_W_at hx).2; have h2 := (gr_W_at hy).2; omega, fun k x hx => hA _ (by have h1 := (gr_W_at hx).2; omega)⟩
variable {l : Launch} {dC : Nat → ClassId} {dI : Nat → Nat → Nat} {dA : Nat → ClassId} {p : Program} {e : Env} {s : State} {m : MethodId} {args : Array Value} {below : List Frame} {meth : Method} {c : Code} {A : Nat → Prop} {R : Room} {Z : State → Prop} {own : String} {cc : ByteArray} {nL pc : Nat} {lv : List (Nat × Value)} {st : List Value} {ws : va_W} {cells slots : Nat}
/-- what the tables say of int[][] -/
def vAA (dA : Nat → ClassId) (U : State) : Prop := ∃ kA : Class, U.vm.classes[dA 5]? = some kA ∧ kA.kind = .array (dA 0) (.array .int)
theorem vAA_mv (dA : Nat → ClassId) : ∀ u U : State, u.vm.Alike U.vm → vAA dA u → vAA dA U := fun _ _ hvm ⟨_, hA, hk⟩ =>
  have ⟨kU, hU, eU⟩ := hvm.2.2 _ _ hA
  ⟨kU, hU, eU ▸ hk⟩
theorem cw_mna {idx : Nat} (C : CwC own cc nL p s m args c dC dI dA A) (hcl : Cond.classLink own idx ("[" ++ (FieldType.array .int).toString) ∈ m_tbl) (hov : vAA dA s) (har : Cond.arrayClass .int ∈ m_tbl) (h1 : cells + 5 ≤ R.cells) (h2 : slots + 124 ≤ R.slots) (hd : decode cc pc = .ok (.multianewarray idx 2, 4))
    (kk : ∀ q : Nat, Cw l dC dI p e s m args below meth c A R Z nL (pc + 4) lv (.ref q :: st) (ws ++ [(q, .inl (dA 5, 4, .inr (.inr (.inr (.inr (fun j => ([q + 1, q + 2, q + 3, q + 4] : List Nat)[j]?)))))), (q + 1, .inl (dA 0, 30, .inl (fun _ => 0))), (q + 2, .inl (dA 0, 30, .inl (fun _ => 0))), (q + 3, .inl (dA 0, 30, .inl (fun _ => 0))), (q + 4, .inl (dA 0, 30, .inl (fun _ => 0)))]) (cells + 5) (slots + 124)) : Cw l dC dI p e s m args below meth c A R Z nL pc lv (.int (nI 30) :: .int (nI 4) :: st) ws cells slots := by
  intro H locs ls hP hD hS hl T hT X
  subst hT
  obtain ⟨kA, hA, hkA⟩ := hov
  obtain ⟨cI, kI, co, hIn, hI, hkI⟩ := Cond.arrayClass_spec (C.2.2.2.2.1 _ har)
  obtain rfl : cI = dA 0 := Option.some.inj (hIn.symm.trans (C.2.2.2.2.2.1.2 0 (dA 0, .int) rfl).2)
  obtain ⟨V, XF, hgo⟩ := gr_step X C.1 C.2.2.2.1 (C.2.2.2.2.1 _ hcl) (C.2.2.2.2.2.1.2 5 (dA 5, .array .int) rfl).2 hA hkA hI hkI (g := F0 m pc ls (.int (nI 30) :: .int (nI 4) :: st)) rfl (C.2.1 ▸ hd) rfl h1 h2
  have hlt : ∀ (k : Nat) (x : Nat × va_E), ws[k]? = some x → x.1 < T.heap.size := fun k x hx => (hP k x hx).lt
  have hP1 : va_P (dC, dI) m_cls (ws ++ gr_W dA T.heap.size) (gr_heap T.heap (dA 5) (dA 0) 4) := (hP.kept fun k x hx => gr_old (hlt k x hx)).app (gr_W_P _ dA T.heap)
  have hD1 : va_D A (ws ++ gr_W dA T.heap.size) := hD.app (gr_W_D dA fun a ha => C.2.2.2.2.2.2 a (Nat.le_trans hS.1 ha)) fun i j x y hx hy => by
    have g1 := hlt i x hx
    have g2 := (gr_W_at hy).2
    omega
  have hS1 : va_S A s.heap (gr_heap T.heap (dA 5) (dA 0) 4) locs := ⟨by have g1 := hS.1; have g2 := gr_size T.heap (dA 5) (dA 0) 4; omega, fun a ha hn => (gr_old (Nat.lt_of_lt_of_le ha hS.1)).trans (hS.2.1 a ha hn), hS.2.2⟩
  obtain ⟨t, ht, hz⟩ := kk T.heap.size _ locs ls hP1 hD1 hS1 hl _ rfl XF
  exact ⟨t, hgo t ht, hz⟩
end GR3

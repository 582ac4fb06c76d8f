section MNA3
theorem mg_o_v (c : ClassId) (a : Nat) : ∀ i : Nat, mg_o c a i = arrV c 4 (fun j => va_rf (if j < i then some (a + 1 + j) else none))
  | 0 => by
    show ({ cls := c, slots := Array.replicate 4 .null, vm := .none } : Cell) = _
    rw [arrV_new]
    refine congrArg (arrV c 4) (funext fun j => ?_)
    simp [va_rf]
  | i + 1 => by
    show (mg_o c a i).setSlot i (.ref (a + 1 + i)) = _
    rw [mg_o_v c a i, arrV_store]
    refine congrArg (arrV c 4) (funext fun j => ?_)
    by_cases e : j = i
    · subst e
      simp [updV, va_rf]
    · by_cases h : j < i
      · simp [updV, e, h, Nat.lt_succ_of_lt h]
      · simp [updV, e, h, show ¬ j < i + 1 by omega]
theorem mg_o_c (c : ClassId) (a : Nat) : mg_o c a 4 = vp_cell c (4, .inr (.inr (.inr (.inr (fun j => ([a + 1, a + 2, a + 3, a + 4] : List Nat)[j]?))))) := by
  rw [vp_cell_q, mg_o_v]
  refine congrArg (arrV c 4) (funext fun j => congrArg va_rf ?_)
  match j with
  | 0 => rfl
  | 1 => rfl
  | 2 => rfl
  | 3 => rfl
  | j + 4 => simp
theorem mg_i_c (c : ClassId) : mg_i c = vp_cell c (30, .inl (fun _ => 0)) := by
  show ({ cls := c, slots := Array.replicate 30 (.int 0), vm := .none } : Cell) = _
  rw [arrV_new]
  rfl
theorem vd_one {A : Nat → Prop} {ws : va_W} {a : Nat} {e : va_E} (hD : va_D A ws) (hlt : ∀ (k : Nat) (x : Nat × va_E), ws[k]? = some x → x.1 < a) (hA : A a) : va_D A (ws ++ [(a, e)]) ∧ ∀ (k : Nat) (x : Nat × va_E), (ws ++ [(a, e)])[k]? = some x → x.1 < a + 1 := by
  have key : ∀ (k : Nat) (x : Nat × va_E), (ws ++ [(a, e)])[k]? = some x → (k < ws.length ∧ ws[k]? = some x) ∨ (k = ws.length ∧ x = (a, e)) := fun k x hx => by
    by_cases h : k < ws.length
    · rw [List.getElem?_append_left h] at hx; exact Or.inl ⟨h, hx⟩
    · rw [List.getElem?_append_right (by omega)] at hx
      have h1 : k - ws.length < 1 := (List.getElem?_eq_some_iff.mp hx).1
      rw [show k - ws.length = 0 by omega] at hx
      exact Or.inr ⟨by omega, (Option.some.inj hx).symm⟩
  refine ⟨⟨fun i j x y hi hj hxy => ?_, fun k x hx => ?_⟩, fun k x hx => ?_⟩
  · rcases key i x hi with ⟨h1, h2⟩ | ⟨h1, h2⟩ <;> rcases key j y hj with ⟨g1, g2⟩ | ⟨g1, g2⟩
    · exact hD.1 i j x y h2 g2 hxy
    · have := hlt i x h2
      rw [hxy, g2] at this
      exact absurd this (Nat.lt_irrefl _)
    · have := hlt j y g2
      rw [← hxy, h2] at this
      exact absurd this (Nat.lt_irrefl _)
    · omega
  · rcases key k x hx with ⟨h1, h2⟩ | ⟨h1, h2⟩
    · exact hD.2 k x h2
    · rw [h2]; exact hA
  · rcases key k x hx with ⟨h1, h2⟩ | ⟨h1, h2⟩
    · exact Nat.lt_succ_of_lt (hlt k x h2)
    · rw [h2]; exact Nat.lt_succ_self _
variable {l : Launch} {dC : Nat → ClassId} {dI : Nat → Nat → Nat} {dA : Nat → ClassId} {p : Program} {e : Env} {s : State} {m : MethodId} {args : Array Value} {below : List Frame} {meth : Method} {c : Code} {A : Nat → Prop} {R : Room} {Z : State → Prop} {own : String} {cc : ByteArray} {nL pc : Nat} {lv : List (Nat × Value)} {st : List Value} {ws : va_W} {cells slots : Nat}
/-- what the tables say of int[][] -/
def vAA (dA : Nat → ClassId) (U : State) : Prop := ∃ kA : Class, U.vm.classes[dA 5]? = some kA ∧ kA.kind = .array (dA 0) (.array .int)
theorem vAA_mv (dA : Nat → ClassId) : ∀ u U : State, u.vm.Alike U.vm → vAA dA u → vAA dA U := fun u U hvm ⟨k, h1, h2⟩ => by
  obtain ⟨k', hk', he⟩ := hvm.2.2 _ _ h1
  exact ⟨k', hk', by rw [he]; exact h2⟩
theorem cw_mna {idx : Nat} (C : CwC own cc nL p s m args c dC dI dA A) (hcl : Cond.classLink own idx ("[" ++ (FieldType.array .int).toString) ∈ m_tbl) (hov : vAA dA s) (har : Cond.arrayClass .int ∈ m_tbl) (h1 : cells + 5 ≤ R.cells) (h2 : slots + 124 ≤ R.slots) (hd : decode cc pc = .ok (.multianewarray idx 2, 4))
    (kk : ∀ q : Nat, Cw l dC dI p e s m args below meth c A R Z nL (pc + 4) lv (.ref q :: st) (ws ++ [(q, .inl (dA 5, 4, .inr (.inr (.inr (.inr (fun j => ([q + 1, q + 2, q + 3, q + 4] : List Nat)[j]?)))))), (q + 1, .inl (dA 0, 30, .inl (fun _ => 0))), (q + 2, .inl (dA 0, 30, .inl (fun _ => 0))), (q + 3, .inl (dA 0, 30, .inl (fun _ => 0))), (q + 4, .inl (dA 0, 30, .inl (fun _ => 0)))]) (cells + 5) (slots + 124)) : Cw l dC dI p e s m args below meth c A R Z nL pc lv (.int (nI 30) :: .int (nI 4) :: st) ws cells slots := by
  intro H locs ls hP hD hS hl T hT X
  obtain ⟨hx, hb, hmax, hown, hts, hK, hA⟩ := id C
  obtain ⟨vm₁, cA, cI, hW, fA, fI, X', step⟩ := mg_step X hx hown (hts _ hcl) ⟨dA 0, dA 5, hov.choose, (hK.2 0 (dA 0, .int) rfl).2, hov.choose_spec.1, hov.choose_spec.2, (hK.2 5 (dA 5, .array .int) rfl).2⟩ (hts _ har) (g := F0 m pc ls (.int (nI 30) :: .int (nI 4) :: st)) rfl (by rw [hb]; exact hd) rfl h1 h2
  have eA : cA = dA 5 := Option.some.inj (fA.symm.trans (show s.vm.findClass ("[" ++ (FieldType.array .int).toString) = some (dA 5) from (hK.2 5 (dA 5, .array .int) rfl).2))
  have eI : cI = dA 0 := Option.some.inj (fI.symm.trans (show s.vm.findClass (FieldType.array .int).toString = some (dA 0) from (hK.2 0 (dA 0, .int) rfl).2))
  subst eA; subst eI
  have hTh : (T.setVm vm₁).heap = H := hT
  generalize hF : mg_f (T.setVm vm₁) (dA 5) (dA 0) 4 = F at X' step
  have f0 := mg_f_k (T.setVm vm₁) (dA 5) (dA 0) 4
  have fo : ∀ a, a < H.size → F.heap[a]? = H[a]? := fun a ha => by
    have := mg_f_old (T.setVm vm₁) (dA 5) (dA 0) (a := a) (by rw [hTh]; exact ha) 4
    rw [hF, hTh] at this; exact this
  have fi : ∀ j, j < 4 → F.heap[H.size + 1 + j]? = some (mg_i (dA 0)) := fun j hj => by
    have := mg_f_in (T.setVm vm₁) (dA 5) (dA 0) 4 j hj
    rw [hF, hTh] at this; exact this
  rw [hF, hTh] at f0
  have hk : ∀ (k : Nat) (x : Nat × va_E), ws[k]? = some x → F.heap[x.1]? = H[x.1]? := fun k x hx => fo x.1 ((hP k x hx).lt)
  have hP1 := (hP.kept hk).app (w2 := [(H.size, .inl (dA 5, 4, .inr (.inr (.inr (.inr (fun j => ([H.size + 1, H.size + 2, H.size + 3, H.size + 4] : List Nat)[j]?)))))), (H.size + 1, .inl (dA 0, 30, .inl (fun _ => 0))), (H.size + 2, .inl (dA 0, 30, .inl (fun _ => 0))), (H.size + 3, .inl (dA 0, 30, .inl (fun _ => 0))), (H.size + 4, .inl (dA 0, 30, .inl (fun _ => 0)))]) (fun k x hx => by
    have h5 : k < 5 := (List.getElem?_eq_some_iff.mp hx).1
    rcases (show k = 0 ∨ k = 1 ∨ k = 2 ∨ k = 3 ∨ k = 4 by omega) with rfl | rfl | rfl | rfl | rfl
    · cases hx
      show F.heap[H.size]? = some (vp_cell _ _)
      rw [f0.2.1, mg_o_c]
    · cases hx
      show F.heap[H.size + 1]? = some (vp_cell _ _)
      rw [← mg_i_c]; exact fi 0 (by decide)
    · cases hx
      show F.heap[H.size + 2]? = some (vp_cell _ _)
      rw [← mg_i_c]; exact fi 1 (by decide)
    · cases hx
      show F.heap[H.size + 3]? = some (vp_cell _ _)
      rw [← mg_i_c]; exact fi 2 (by decide)
    · cases hx
      show F.heap[H.size + 4]? = some (vp_cell _ _)
      rw [← mg_i_c]; exact fi 3 (by decide))
  have hA' : ∀ q, H.size ≤ q → A q := fun q hq => hA q (Nat.le_trans hS.1 hq)
  have v1 := vd_one (a := H.size) (e := .inl (dA 5, 4, .inr (.inr (.inr (.inr (fun j => ([H.size + 1, H.size + 2, H.size + 3, H.size + 4] : List Nat)[j]?)))))) hD (fun k x hx => (hP k x hx).lt) (hA' _ (Nat.le_refl _))
  have v2 := vd_one (a := H.size + 1) (e := .inl (dA 0, 30, .inl (fun _ => 0))) v1.1 v1.2 (hA' _ (by omega))
  have v3 := vd_one (a := H.size + 2) (e := .inl (dA 0, 30, .inl (fun _ => 0))) v2.1 v2.2 (hA' _ (by omega))
  have v4 := vd_one (a := H.size + 3) (e := .inl (dA 0, 30, .inl (fun _ => 0))) v3.1 v3.2 (hA' _ (by omega))
  have v5 := vd_one (a := H.size + 4) (e := .inl (dA 0, 30, .inl (fun _ => 0))) v4.1 v4.2 (hA' _ (by omega))
  have hD1 := v5.1
  simp only [List.append_assoc, List.cons_append, List.nil_append] at hD1
  have hS1 : va_S A s.heap F.heap locs := ⟨Nat.le_trans hS.1 (by rw [f0.1]; omega), fun x g1 g2 => (fo x (Nat.lt_of_lt_of_le g1 hS.1)).trans (hS.2.1 x g1 g2), hS.2.2⟩
  obtain ⟨t, a1, b1⟩ := kk H.size F.heap locs ls hP1 hD1 hS1 hl F rfl X'
  refine ⟨t, step t ?_, b1⟩
  rw [hT]
  exact a1
end MNA3

section START
variable {l : Launch} {dC : Nat → ClassId} {dI : Nat → Nat → Nat} {dA : Nat → ClassId} {p : Program} {e : Env} {s : State} {m : MethodId} {args : Array Value} {below : List Frame} {meth : Method} {c : Code} {A : Nat → Prop} {R : Room} {Z : State → Prop} {own : String} {cc : ByteArray} {nL pc : Nat} {lv : List (Nat × Value)} {st : List Value} {ws : va_W} {cells slots : Nat}
theorem cw_ast {k : Fin 4} {i x : Nat} (lv' : List (Nat × Value)) (C : CwC own cc nL p s m args c dC dI dA A) (hi : (k : Nat) = i) (hn : i < nL) (hl' : (i, Value.ref x) :: lv.filter (fun q => !(q.1 == i) && !(q.1 + 1 == i && q.2.category == 2)) = lv') (hd : decode cc pc = .ok (.astore_n k, 1)) (kk : Cw l dC dI p e s m args below meth c A R Z nL (pc + 1) lv' st ws cells slots) : Cw l dC dI p e s m args below meth c A R Z nL pc lv (.ref x :: st) ws cells slots := fun H locs ls hP hD hS hl => lv_astore_n (lv' := lv') C.1 C.2.1 hd hi hl hn hl' (fun ls hl => kk H locs ls hP hD hS hl)
/-- the world right behind the constructors -/
def h_0 : MH := (fun k => if k = 1 then (fun j => if j = 0 then nI 4 else 0) else if k = 67 then (fun j => if j = 0 then nI 4 else if j = 5 then nI 1 else 0) else fun _ => 0, fun _ _ => 0)
theorem inv_0 : Inv h_0 := by
  refine ⟨AS.mk 4 0 [] [] [] [] (fun _ => (0, [])) none, ⟨gOK_0 (by decide) (by decide), Nat.zero_le _, fun K hK => absurd hK (List.not_mem_nil), ⟨Nat.zero_le _, fun t ht => absurd ht (Nat.not_lt_zero _)⟩, okL_nil, okI_nil, fun k hk => ⟨Nat.zero_le _, Nat.zero_le _, fun z => absurd z (by simp [AS.S, AS.mk])⟩, trivial⟩, ?_, ?_⟩
  · refine ⟨⟨rfl, rfl⟩, cI_fresh ⟨rfl, rfl, fun k hk => ⟨rfl, rfl⟩, rfl⟩, Or.inl rfl, ⟨rfl, fun i hi => absurd hi (Nat.not_lt_zero _)⟩, ⟨rfl, fun i hi => absurd hi (Nat.not_lt_zero _)⟩, ⟨rfl, hold_nil _⟩, ⟨rfl, hold_nil _⟩, fun k hk => ⟨?_, fun z => absurd rfl z⟩, rfl⟩
    rcases (show k = 0 ∨ k = 1 ∨ k = 2 ∨ k = 3 by omega) with rfl | rfl | rfl | rfl <;> rfl
  · refine ⟨⟨rfl, fun v hv => ?_⟩, Or.inl rfl, ⟨rfl, fun i hi => absurd hi (Nat.not_lt_zero _)⟩, ⟨rfl, fun i hi => absurd hi (Nat.not_lt_zero _)⟩, ⟨rfl, hold_nil _⟩, ⟨rfl, hold_nil _⟩, fun k hk => ⟨rfl, fun z => absurd rfl z⟩, rfl⟩
    show (0 : Int32) = nI (nb 0 v)
    unfold nb
    rw [Nat.zero_div, Nat.zero_mod]; rfl
theorem law_K (hts : ∀ w ∈ lw_tbl, w.before args s = true) : ∃ (dC : Nat → ClassId) (dI : Nat → Nat → Nat) (dA : Nat → ClassId), va_K (dC, dI) m_cls (m_tys dA) s ∧ vAO s ∧ vAA dA s := by
  have ht : ∀ w ∈ m_tbl, w.before args s = true := fun w hw => hts w (List.mem_filter.mp hw).1
  obtain ⟨c0, i0, k0⟩ := u_known (C := RX0) (T := TX0) (N := 2) (n := 2) ht iw_X0 (ht _ inst_X0)
  obtain ⟨c1, i1, k1⟩ := u_known (C := RX1) (T := TX1) (N := 3) (n := 3) ht iw_X1 (ht _ inst_X1)
  obtain ⟨c2, i2, k2⟩ := u_known (C := RX2) (T := TX2) (N := 10) (n := 10) ht iw_X2 (ht _ inst_X2)
  obtain ⟨c3, i3, k3⟩ := u_known (C := RX3) (T := TX3) (N := 5) (n := 5) ht iw_X3 (ht _ inst_X3)
  obtain ⟨c4, i4, k4⟩ := u_known (C := RX4) (T := TX4) (N := 7) (n := 7) ht iw_X4 (ht _ inst_X4)
  obtain ⟨c5, i5, k5⟩ := u_known (C := RX5) (T := TX5) (N := 3) (n := 3) ht iw_X5 (ht _ inst_X5)
  obtain ⟨c6, i6, k6⟩ := u_known (C := RX7) (T := TX7) (N := 2) (n := 2) ht iw_X7 (ht _ inst_X7)
  obtain ⟨c7, i7, k7⟩ := u_known (C := RX8) (T := TX8) (N := 2) (n := 2) ht iw_X8 (ht _ inst_X8)
  obtain ⟨c8, i8, k8⟩ := u_known (C := RX9) (T := TX9) (N := 5) (n := 5) ht iw_X9 (ht _ inst_X9)
  obtain ⟨c9, i9, k9⟩ := u_known (C := RX10) (T := TX10) (N := 5) (n := 5) ht iw_X10 (ht _ inst_X10)
  obtain ⟨c10, i10, k10⟩ := u_known (C := RX11) (T := TX11) (N := 9) (n := 9) ht iw_X11 (ht _ inst_X11)
  obtain ⟨c11, i11, k11⟩ := u_known (C := RX12) (T := TX12) (N := 31) (n := 31) ht iw_X12 (ht _ inst_X12)
  obtain ⟨a0, kA0, m0, f0, g0, e0⟩ := Cond.arrayClass_spec (ht _ ac_int)
  obtain ⟨a1, kA1, m1, f1, g1, e1⟩ := Cond.arrayClass_spec (ht _ ac_boolean)
  obtain ⟨a2, kA2, m2, f2, g2, e2⟩ := Cond.arrayClass_spec (ht _ ac_long)
  obtain ⟨m3, a3, kA3, f3, j3, g3, e3, n3⟩ := Cond.arrayOver_spec (hts _ ao_X7)
  obtain ⟨m4, a4, kA4, f4, j4, g4, e4, n4⟩ := Cond.arrayOver_spec (hts _ ao_X8)
  obtain ⟨m5, a5, kA5, f5, g5, e5, n5⟩ := gr_over (hts _ ao_A)
  have em : m5 = a0 := Option.some.inj (f5.symm.trans f0)
  subst em
  refine ⟨fun k => ([c0, c1, c2, c3, c4, c5, c6, c7, c8, c9, c10, c11] : List ClassId).getD k c0, fun k => ([i0, i1, i2, i3, i4, i5, i6, i7, i8, i9, i10, i11] : List (Nat → Nat)).getD k i0, fun k => ([m5, a1, a2, a3, a4, a5] : List ClassId).getD k m5, ⟨fun k q hq => ?_, fun k q hq => ?_⟩, ⟨va_AO.of (hts _ ao_X7), va_AO.of (hts _ ao_X8)⟩, kA5, g5, e5⟩
  · match k, hq with
    | 0, hq => cases hq; exact k0
    | 1, hq => cases hq; exact k1
    | 2, hq => cases hq; exact k2
    | 3, hq => cases hq; exact k3
    | 4, hq => cases hq; exact k4
    | 5, hq => cases hq; exact k5
    | 6, hq => cases hq; exact k6
    | 7, hq => cases hq; exact k7
    | 8, hq => cases hq; exact k8
    | 9, hq => cases hq; exact k9
    | 10, hq => cases hq; exact k10
    | 11, hq => cases hq; exact k11
    | k + 12, hq => simp [m_cls] at hq
  · match k, hq with
    | 0, hq => cases hq; exact ⟨fun n z => ⟨fun k h => (by cases h), kA0, g0, m0, e0⟩, f0⟩
    | 1, hq => cases hq; exact ⟨fun n z => ⟨fun k h => (by cases h), kA1, g1, m1, e1⟩, f1⟩
    | 2, hq => cases hq; exact ⟨fun n z => ⟨fun k h => (by cases h), kA2, g2, m2, e2⟩, f2⟩
    | 3, hq => cases hq; exact ⟨fun n z => ⟨fun k h => (by cases h), kA3, g3, m3, e3⟩, kA3, m3, g3, e3, f3, n3⟩
    | 4, hq => cases hq; exact ⟨fun n z => ⟨fun k h => (by cases h), kA4, g4, m4, e4⟩, kA4, m4, g4, e4, f4, n4⟩
    | 5, hq => cases hq; exact ⟨fun n z => ⟨fun k h => (by cases h), kA5, g5, m5, e5⟩, n5⟩
    | k + 6, hq => simp [m_tys] at hq
end START

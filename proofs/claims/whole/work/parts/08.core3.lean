section CORE3
variable {G : MG} {d : Nat} {M : MI} {pc : Nat} {lv : List (Option Value)} {st : List Value} {h : MH} {Q : Option Value → MH → Prop}
theorem m_sys : Cond.native arraycopyName ∈ m_tbl ∧ Cond.static arraycopyName ∈ m_tbl ∧ Cond.initialized "java/lang/System" ∈ m_tbl := ⟨(m_tm (List.mem_of_getElem? (i := 391) (by decide +kernel)) rfl), (m_tm (List.mem_of_getElem? (i := 390) (by decide +kernel)) rfl), (m_tm (List.mem_of_getElem? (i := 66) (by decide +kernel)) rfl)⟩
theorem ev_acopy {idx a b na nb sp dp n : Nat} {ra rb : List Nat} (hml : Cond.methodLink M.1.cls idx arraycopyName ∈ m_tbl) (hroom : (st.map fun v => v.category).sum ≤ 8) (hpa : m_lay[a]? = some (.inl (0, na, ra))) (hpb : m_lay[b]? = some (.inl (0, nb, rb))) (hd : decode M.2.1 pc = .ok (.invokestatic idx, 3)) (h1 : sp + n ≤ na) (h2 : dp + n ≤ nb) (h3 : na < 2 ^ 31) (h4 : nb < 2 ^ 31) (k : Ev G (d + 1) M (pc + 3) lv st (m_putA h b (va_cpy (h.1 a) (h.1 b) sp dp n)) Q) : Ev G (d + 1) M pc lv (.int (nI n) :: .int (nI dp) :: .ref b :: .int (nI sp) :: .ref a :: st) h Q := by
  intro p e s m args below meth c A H locs ls O hP hD hS hl
  have hts := O.2.2.2.2.2.1
  have c1 : (nI n).toNatClampNeg = n := nI_clamp (by omega)
  have c2 : (nI sp).toNatClampNeg = sp := nI_clamp (by omega)
  have c3 : (nI dp).toNatClampNeg = dp := nI_clamp (by omega)
  refine va_copyi (D := G.2.1) (f := h.1 a) (g := h.1 b) (ty := .int) O.1 O.2.1 (O.2.2.2.1.trans hl.1.symm) O.2.2.2.2.1 (hts _ hml) (hts _ m_sys.1) (hts _ m_sys.2.1) (hts _ m_sys.2.2) O.2.2.2.2.2.2.2.1 hP hD hS a b 0 0 (m_ws_get hpa) (m_ws_get hpb) rfl rfl rfl (nI_pos (by omega)) (nI_pos (by omega)) (nI_pos (by omega)) (by rw [c1, c2]; exact h1) (by rw [c1, c3]; exact h2) (fun _ _ => rfl) (Nat.succ_le_succ (Nat.zero_le _)) (by show _ + (7 + 11) ≤ 64 * (d + 1); have : ((st.map (m_v G.2.2.2)).map fun v => v.category).sum ≤ 8 := (by simpa [List.map_map, Function.comp_def, m_v_cat] using hroom); omega) hd ?_
  intro H1 locs1 hP1 hD1 hS1
  rw [c1, c2, c3, m_ws_putAr hpb (by decide)] at hP1 hD1
  exact k p e s m args below meth c A H1 locs1 ls O hP1 hD1 hS1 hl
theorem ev_acopyL {idx a b na nb sp dp n : Nat} {ra rb : List Nat} (hml : Cond.methodLink M.1.cls idx arraycopyName ∈ m_tbl) (hroom : (st.map fun v => v.category).sum ≤ 8) (hpa : m_lay[a]? = some (.inl (2, na, ra))) (hpb : m_lay[b]? = some (.inl (2, nb, rb))) (hd : decode M.2.1 pc = .ok (.invokestatic idx, 3)) (h1 : sp + n ≤ na) (h2 : dp + n ≤ nb) (h3 : na < 2 ^ 31) (h4 : nb < 2 ^ 31) (k : Ev G (d + 1) M (pc + 3) lv st (m_putAL h b (va_cpy (h.2 a) (h.2 b) sp dp n)) Q) : Ev G (d + 1) M pc lv (.int (nI n) :: .int (nI dp) :: .ref b :: .int (nI sp) :: .ref a :: st) h Q := by
  intro p e s m args below meth c A H locs ls O hP hD hS hl
  have hts := O.2.2.2.2.2.1
  have c1 : (nI n).toNatClampNeg = n := nI_clamp (by omega)
  have c2 : (nI sp).toNatClampNeg = sp := nI_clamp (by omega)
  have c3 : (nI dp).toNatClampNeg = dp := nI_clamp (by omega)
  refine va_copyl (D := G.2.1) (f := h.2 a) (g := h.2 b) (ty := .long) O.1 O.2.1 (O.2.2.2.1.trans hl.1.symm) O.2.2.2.2.1 (hts _ hml) (hts _ m_sys.1) (hts _ m_sys.2.1) (hts _ m_sys.2.2) O.2.2.2.2.2.2.2.1 hP hD hS a b 2 2 (m_ws_get hpa) (m_ws_get hpb) rfl rfl rfl (nI_pos (by omega)) (nI_pos (by omega)) (nI_pos (by omega)) (by rw [c1, c2]; exact h1) (by rw [c1, c3]; exact h2) (fun _ _ => rfl) (Nat.succ_le_succ (Nat.zero_le _)) (by show _ + (7 + 11) ≤ 64 * (d + 1); have : ((st.map (m_v G.2.2.2)).map fun v => v.category).sum ≤ 8 := (by simpa [List.map_map, Function.comp_def, m_v_cat] using hroom); omega) hd ?_
  intro H1 locs1 hP1 hD1 hS1
  rw [c1, c2, c3, m_ws_putArL hpb] at hP1 hD1
  exact k p e s m args below meth c A H1 locs1 ls O hP1 hD1 hS1 hl
/-! reads behind writes -/
theorem mp_eq (h : MH) (k j : Nat) (v : Int32) : (m_put h k j v).1 k j = v := by simp [m_put, m_putA, upd]
theorem mp_j {h : MH} {k j j' : Nat} {v : Int32} (e : j' ≠ j) : (m_put h k j v).1 k j' = h.1 k j' := by simp [m_put, m_putA, upd, e]
theorem mp_k {h : MH} {k k' j : Nat} {v : Int32} (e : k' ≠ k) : (m_put h k j v).1 k' = h.1 k' := if_neg e
theorem mp_2 (h : MH) (k j : Nat) (v : Int32) : (m_put h k j v).2 = h.2 := rfl
theorem ma_eq (h : MH) (k : Nat) (f : Nat → Int32) : (m_putA h k f).1 k = f := if_pos rfl
theorem ma_k {h : MH} {k k' : Nat} {f : Nat → Int32} (e : k' ≠ k) : (m_putA h k f).1 k' = h.1 k' := if_neg e
theorem ma_2 (h : MH) (k : Nat) (f : Nat → Int32) : (m_putA h k f).2 = h.2 := rfl
theorem ml_eq (h : MH) (k j : Nat) (v : Int64) : (m_putL h k j v).2 k j = v := by simp [m_putL, m_putAL, vp_updL]
theorem ml_j {h : MH} {k j j' : Nat} {v : Int64} (e : j' ≠ j) : (m_putL h k j v).2 k j' = h.2 k j' := by simp [m_putL, m_putAL, vp_updL, e]
theorem ml_k {h : MH} {k k' j : Nat} {v : Int64} (e : k' ≠ k) : (m_putL h k j v).2 k' = h.2 k' := if_neg e
theorem ml_1 (h : MH) (k j : Nat) (v : Int64) : (m_putL h k j v).1 = h.1 := rfl
theorem mal_eq (h : MH) (k : Nat) (f : Nat → Int64) : (m_putAL h k f).2 k = f := if_pos rfl
theorem mal_k {h : MH} {k k' : Nat} {f : Nat → Int64} (e : k' ≠ k) : (m_putAL h k f).2 k' = h.2 k' := if_neg e
theorem mal_1 (h : MH) (k : Nat) (f : Nat → Int64) : (m_putAL h k f).1 = h.1 := rfl
/-! what a test says, as a number -/
noncomputable def b01 (P : Prop) : Nat := @ite _ P (Classical.propDecidable P) 1 0
theorem b01_t {P : Prop} (h : P) : b01 P = 1 := if_pos h
theorem b01_f {P : Prop} (h : ¬ P) : b01 P = 0 := if_neg h
theorem b01_lt (P : Prop) : b01 P < 2 := by
  by_cases h : P
  · rw [b01_t h]; decide
  · rw [b01_f h]; decide
theorem b01_0 {P : Prop} : b01 P = 0 ↔ ¬ P := by
  by_cases h : P
  · rw [b01_t h]; simp [h]
  · rw [b01_f h]; simp [h]
theorem b01_1 {P : Prop} : b01 P = 1 ↔ P := by
  by_cases h : P
  · rw [b01_t h]; simp [h]
  · rw [b01_f h]; simp [h]
theorem b01_c {P Q : Prop} (h : P ↔ Q) : b01 P = b01 Q := by rw [propext h]
/-- x is one of 0 .. s - 1 -/
def inR (x : Int32) (s : Nat) : Prop := ∃ j : Nat, j < s ∧ x = nI j
theorem inR_nI {j s : Nat} (hj : j < 2 ^ 31) (hs : s < 2 ^ 31) : inR (nI j) s ↔ j < s := by
  constructor
  · rintro ⟨i, hi, e⟩
    have := (nI_eq hj (by omega)).mp e
    omega
  · intro h; exact ⟨j, h, rfl⟩
theorem inR_neg {x : Int32} {s : Nat} (hs : s < 2 ^ 31) (hx : x < 0) : ¬ inR x s := by
  rintro ⟨j, hj, rfl⟩
  exact nI_pos (by omega) hx
theorem inR_ge {x : Int32} {s : Nat} (hs : s < 2 ^ 31) (hx : nI s ≤ x) : ¬ inR x s := by
  rintro ⟨j, hj, rfl⟩
  exact nI_ge hj hs hx
theorem inR_of {x : Int32} {s : Nat} (hs : s < 2 ^ 31) (h0 : ¬ x < 0) (h1 : ¬ nI s ≤ x) : inR x s := by
  rcases pk_ix x hs with h | h | ⟨j, hj, e⟩
  · exact absurd h h0
  · exact absurd h h1
  · exact ⟨j, hj, e⟩
end CORE3

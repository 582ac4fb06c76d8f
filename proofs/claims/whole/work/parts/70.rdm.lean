section RDM
variable {G : MG} {d : Nat} {h : MH}
abbrev mA (h h' : MH) : Prop := mod (fun _ => True) (fun j => j ≠ 22) h h'
theorem iM_mA {h' : MH} {I : List Nat} (r : iM h I) (m : mA h h') : iM h' I := ⟨by rw [m.2 21 (by decide)]; exact r.1, by rw [(m.1 80 (by decide) trivial).1]; exact r.2⟩
theorem cl_cur_in {I : List Nat} {p : Nat} (r : iM h I) (o : okI I) (hp : p < I.length) (hat : h.1 67 22 = nI p) : Cl G d M_X12_current [.ref 67] h (qI (nI (I.getD p 0)) h) := by
  have l60 := o.1
  refine ev_start 0 (lv := [some (.ref 67)]) rfl (by decide) (Nat.le_of_ble_eq_true rfl) ?_
  refine ev_aload_n dX12_current_0 rfl ?_
  refine ev_getIv (hat) fl_X12_282 rfl rfl dX12_current_1 ?_
  refine ev_aload_n dX12_current_4 rfl ?_
  refine ev_getIv (r.1) fl_X12_279 rfl rfl dX12_current_5 ?_
  refine ev_icmp_geN 23 dX12_current_8 (by decide) (by omega) (by omega) (fun c8 => ?_) (fun c8 => ?_)
  · omega
  · refine ev_aload_n dX12_current_11 rfl ?_
    refine ev_getR fl_X12_56 rfl rfl dX12_current_12 ?_
    refine ev_aload_n dX12_current_15 rfl ?_
    refine ev_getIv (hat) fl_X12_282 rfl rfl dX12_current_16 ?_
    refine ev_ialdv (r.2 p hp) rfl dX12_current_19 (by omega) (by omega) ?_
    refine ev_goto 24 dX12_current_20 (by decide) ?_
    refine ev_iret dX12_current_24 rfl ?_
    exact ⟨by with_reducible rfl, rfl⟩
theorem cl_cur_out {I : List Nat} {p : Nat} (r : iM h I) (o : okI I) (hp : p = I.length) (hat : h.1 67 22 = nI p) : Cl G d M_X12_current [.ref 67] h (qI (-1) h) := by
  have l60 := o.1
  refine ev_start 0 (lv := [some (.ref 67)]) rfl (by decide) (Nat.le_of_ble_eq_true rfl) ?_
  refine ev_aload_n dX12_current_0 rfl ?_
  refine ev_getIv (hat) fl_X12_282 rfl rfl dX12_current_1 ?_
  refine ev_aload_n dX12_current_4 rfl ?_
  refine ev_getIv (r.1) fl_X12_279 rfl rfl dX12_current_5 ?_
  refine ev_icmp_geN 23 dX12_current_8 (by decide) (by omega) (by omega) (fun c8 => ?_) (fun c8 => ?_)
  · refine ev_iconst (-1) dX12_current_23 rfl ?_
    refine ev_iret dX12_current_24 rfl ?_
    exact ⟨by with_reducible rfl, rfl⟩
  · omega
theorem prF_s {I : List Nat} {p : Nat} {s : Ps} (hp : p < I.length) : prF I (I.length - p) p s = match pst (I.getD p 0) s with
    | none => .inl p
    | some s' => prF I (I.length - (p + 1)) (p + 1) s' := by
  rw [show I.length - p = (I.length - (p + 1)) + 1 by omega, prF]
  cases pst (I.getD p 0) s <;> rfl
/-- a monomial has been read up to p; K ends with it -/
def aft (I : List Nat) (R : Nat ⊕ List Nat) (p : Nat) (K : List Nat) : Prop :=
  (p = I.length → R = .inr K) ∧ (p < I.length → I.getD p 0 ≠ 44 → R = .inl p) ∧ (p < I.length → I.getD p 0 = 44 → (K.length = 24 → R = .inl p) ∧ (K.length ≠ 24 → prF I (I.length - (p + 1)) (p + 1) (0, 0, 0, K) = R))
theorem aft_of {I : List Nat} {R : Nat ⊕ List Nat} {p : Nat} {s : Ps} (h0 : s.1 ≠ 0) (e : prF I (I.length - p) p s = R) (hn : p < I.length → I.getD p 0 ≠ 44 → pst (I.getD p 0) s = none) : aft I R p (s.2.2.2 ++ [s.2.1]) := by
  refine ⟨fun hp => ?_, fun hp hb => ?_, fun hp hb => ?_⟩
  · subst hp
    rw [Nat.sub_self, prF, if_neg h0] at e
    exact e.symm
  · rw [prF_s hp, hn hp hb] at e
    exact e.symm
  · have pe : pst (I.getD p 0) s = if s.1 = 0 ∨ s.2.2.2.length = 23 then none else some (0, 0, 0, s.2.2.2 ++ [s.2.1]) := by
      unfold pst; rw [if_pos hb]
    have ll : (s.2.2.2 ++ [s.2.1]).length = s.2.2.2.length + 1 := by rw [List.length_append]; rfl
    rw [prF_s hp, pe] at e
    refine ⟨fun z => ?_, fun z => ?_⟩
    · rw [if_pos (Or.inr (by omega))] at e; exact e.symm
    · rw [if_neg (by omega)] at e; exact e
theorem or_add4x {c e v : Nat} (hc : c < 4 ^ v) : c ||| e * 4 ^ v = c + e * 4 ^ v := by
  have q : 4 ^ v = 2 ^ (2 * v) := by rw [Nat.pow_mul]
  rw [q] at hc ⊢
  have := Nat.two_pow_add_eq_or_of_lt hc e
  rw [Nat.or_comm, Nat.mul_comm e, ← this, Nat.add_comm]
abbrev rmQ (h : MH) (I K : List Nat) (R : Nat ⊕ List Nat) (p : Nat) : Option Value → MH → Prop := fun rv h' => mA h h' ∧ ∃ p', h'.1 67 22 = nI p' ∧ p' ≤ I.length ∧ ((rv = some (.int (-2)) ∧ R = .inl p') ∨ (∃ c', rv = some (.int (nI c')) ∧ c' < 16384 ∧ p < p' ∧ aft I R p' (K ++ [c'])))
/-- where the reference's reader stands: s is the state, cd the code so far, nx the least letter that may follow -/
def rmI (I : List Nat) (p0 p : Nat) (s : Ps) (cd nx : Nat) : Prop :=
  (s.1 = 0 ∧ nx = 97 ∧ cd = 0 ∧ (p < I.length → I.getD p 0 ≠ 49)) ∨ ((s.1 = 2 ∧ (p < I.length → ¬ (I.getD p 0 = 50 ∨ I.getD p 0 = 51)) ∨ s.1 = 3) ∧ nx = s.2.2.1 + 98 ∧ cd = s.2.1 ∧ p0 < p)
theorem rmI_end {I : List Nat} {R : Nat ⊕ List Nat} {p0 p cd nx : Nat} {s : Ps} (i : rmI I p0 p s cd nx) (e : prF I (I.length - p) p s = R) (hp : p ≤ I.length) (hx : p < I.length → ¬ (nx ≤ I.getD p 0 ∧ I.getD p 0 ≤ 103)) : (nx = 97 → R = .inl p) ∧ (nx ≠ 97 → s.1 ≠ 0 ∧ cd = s.2.1 ∧ p0 < p ∧ aft I R p (s.2.2.2 ++ [s.2.1])) := by
  rcases i with ⟨i1, i2, i3, i4⟩ | ⟨i1, i2, i3, i4⟩
  · refine ⟨fun _ => ?_, fun z => absurd i2 z⟩
    by_cases c : p < I.length
    · have pn : pst (I.getD p 0) s = none := by
        have h4 := i4 c
        have h5 := hx c
        unfold pst
        by_cases c1 : I.getD p 0 = 44
        · rw [if_pos c1, if_pos (Or.inl i1)]
        · rw [if_neg c1, if_neg h4]
          by_cases c2 : I.getD p 0 = 50 ∨ I.getD p 0 = 51
          · rw [if_pos c2, if_neg (by omega)]
          · rw [if_neg c2, if_neg (by omega)]
      rw [prF_s c, pn] at e
      exact e.symm
    · have : p = I.length := by omega
      subst this
      rw [Nat.sub_self, prF, if_pos i1] at e
      exact e.symm
  · have s0 : s.1 ≠ 0 := by omega
    refine ⟨fun z => absurd z (by omega), fun _ => ⟨s0, i3, i4, aft_of s0 e (fun c hb => ?_)⟩⟩
    have h5 := hx c
    unfold pst
    rw [if_neg hb]
    by_cases c1 : I.getD p 0 = 49
    · rw [if_pos c1, if_neg s0]
    · rw [if_neg c1]
      by_cases c2 : I.getD p 0 = 50 ∨ I.getD p 0 = 51
      · rw [if_pos c2]
        rcases i1 with ⟨i5, i6⟩ | i5
        · exact absurd c2 (i6 c)
        · rw [if_neg (by omega)]
      · rw [if_neg c2]
        by_cases c3 : 97 ≤ I.getD p 0 ∧ I.getD p 0 ≤ 103
        · rw [if_pos c3, if_neg s0, if_pos (by omega)]
        · rw [if_neg c3]
theorem rmI_step {I : List Nat} {p0 p cd nx : Nat} {s : Ps} (w : wPs s) (i : rmI I p0 p s cd nx) (hx : nx ≤ I.getD p 0 ∧ I.getD p 0 ≤ 103) : pst (I.getD p 0) s = some (2, cd + 4 ^ (I.getD p 0 - 97), I.getD p 0 - 97, s.2.2.2) ∧ cd < 4 ^ (I.getD p 0 - 97) := by
  have pp := Nat.pow_pos (n := I.getD p 0 - 97) (show 0 < 4 by decide)
  rcases i with ⟨i1, i2, i3, i4⟩ | ⟨i1, i2, i3, i4⟩
  · refine ⟨?_, by omega⟩
    unfold pst
    rw [if_neg (by omega), if_neg (by omega), if_neg (by omega), if_pos (by omega), if_pos i1, i3]
  · have s0 : s.1 ≠ 0 := by omega
    have bd : s.2.1 < 4 ^ (I.getD p 0 - 97) := by
      have p4 := p4_lt (show s.2.2.1 < I.getD p 0 - 97 by omega)
      rcases (show s.1 = 2 ∨ s.1 = 3 by omega) with z | z
      · have := (w.2.2.2.2.1 z).2; omega
      · have := (w.2.2.2.2.2 z).2; omega
    refine ⟨?_, by rw [i3]; exact bd⟩
    unfold pst
    rw [if_neg (by omega), if_neg (by omega), if_neg (by omega), if_pos (by omega), if_neg s0, if_neg (by omega), i3]
theorem rg_m1 {a b : Nat} (hb : b < 2 ^ 31) : ¬ rg (-1) a b := fun ⟨j, _, h2, e⟩ => nI_pos (show j < 2 ^ 31 by omega) (by rw [← e]; decide)
theorem cl_btw2 {x : Int32} {a b : Nat} {y z : Int64} (hy : y = (nI a).toInt64) (hz : z = (nI b).toInt64) (hb : b < 2 ^ 31) (hab : a < 2 ^ 31) : Cl G d M_X12_isBetween [.long x.toInt64, .long y, .long z] h (qI (nI (b01 (rg x a b))) h) := by
  by_cases c : a ≤ b
  · exact cl_btw hy hz hb c
  · subst hy; subst hz
    have e : b01 (rg x a b) = b01 ((nI a).toInt64 ≤ x.toInt64 ∧ x.toInt64 ≤ (nI b).toInt64) := by
      rw [b01_f (fun ⟨j, h1, h2, _⟩ => by omega), b01_f]
      rintro ⟨h1, h2⟩
      have q := Int32.le_trans ((i2l_le _ _).mp h1) ((i2l_le _ _).mp h2)
      exact c ((nI_leI hab hb).mp q)
    rw [e]
    exact cl_isBetween
theorem cl_readMonomial {I K : List Nat} {R : Nat ⊕ List Nat} {p0 : Nat} (r : iM h I) (o : okI I) (hat : h.1 67 22 = nI p0) (hp0 : p0 ≤ I.length) (e0 : prF I (I.length - p0) p0 (0, 0, 0, K) = R) (oK : okL K) (hK : K.length ≤ 23) : Cl G (d + 1) M_X12_readMonomial [.ref 67] h (rmQ h I K R p0) := by
  have l60 := o.1
  have outc : ∀ (p : Nat) (s : Ps) (cd nx : Nat) (x3 x4 : Option Value) (h1 : MH), p = I.length → wPs s → s.2.2.2 = K → prF I (I.length - p) p s = R → rmI I p0 p s cd nx → nx ≤ 104 → mA h h1 → h1.1 67 22 = nI p → Ev G (d + 1) M_X12_readMonomial 26 [some (.ref 67), some (.int (nI cd)), some (.int (nI nx)), x3, x4] [] h1 (rmQ h I K R p0) := by
    intro p s cd nx x3 x4 h1 hp w hs e i hnx m1 a1
    have r1 := iM_mA r m1
    have en := rmI_end i e (by omega) (fun z => by omega)
    have q1 := b01_f (rg_m1 (a := nx) (b := 103) (by decide))
    refine ev_aload_n dX12_readMonomial_26 rfl ?_
    refine ev_callV (cl_cur_out r1 o hp a1) ok_X12_current ml_X12_285 rfl rfl rfl rfl (Nat.le_of_ble_eq_true rfl) dX12_readMonomial_27 (kI ?_)
    refine ev_i2l dX12_readMonomial_30 rfl ?_
    refine ev_iload_n dX12_readMonomial_31 rfl ?_
    refine ev_i2lN dX12_readMonomial_32 (by omega) ?_
    refine ev_ldc2 (lN 103) dX12_readMonomial_33 kl_X12_288 ?_
    refine ev_callS (cl_btw2 (a := nx) (b := 103) (nI_l (by omega)).symm rfl (by decide) (by omega)) ok_X12_isBetween ml_X12_79 rfl rfl (Nat.le_of_ble_eq_true rfl) dX12_readMonomial_36 (kI ?_)
    refine ev_if_eqN 119 dX12_readMonomial_39 (by decide) (by omega) (fun c39 => ?_) (fun c39 => ?_)
    · refine ev_iload_n dX12_readMonomial_119 rfl ?_
      refine ev_bipush (nI 97) dX12_readMonomial_120 rfl ?_
      refine ev_icmp_neN 130 dX12_readMonomial_122 (by decide) (by omega) (by omega) (fun c122 => ?_) (fun c122 => ?_)
      · refine ev_iload_n dX12_readMonomial_130 rfl ?_
        refine ev_iret dX12_readMonomial_131 rfl ?_
        obtain ⟨e1, e2, e3, e4⟩ := en.2 c122
        rw [hs] at e4
        exact ⟨m1, p, a1, by omega, Or.inr ⟨s.2.1, by rw [e2], wPs_c w e1, e3, e4⟩⟩
      · refine ev_bipush (-2) dX12_readMonomial_125 rfl ?_
        refine ev_goto 131 dX12_readMonomial_127 (by decide) ?_
        refine ev_iret dX12_readMonomial_131 rfl ?_
        exact ⟨m1, p, a1, by omega, Or.inl ⟨rfl, en.1 (by omega)⟩⟩
    · omega
  have loop : ∀ (k p : Nat) (s : Ps) (cd nx : Nat) (x3 x4 : Option Value) (h1 : MH), I.length - p ≤ k → p ≤ I.length → wPs s → s.2.2.2 = K → prF I (I.length - p) p s = R → rmI I p0 p s cd nx → nx ≤ 104 → p0 ≤ p → mA h h1 → h1.1 67 22 = nI p → Ev G (d + 1) M_X12_readMonomial 26 [some (.ref 67), some (.int (nI cd)), some (.int (nI nx)), x3, x4] [] h1 (rmQ h I K R p0) := by
    intro k
    induction k with
    | zero =>
      intro p s cd nx x3 x4 h1 hk hp w hs e i hnx hpp m1 a1
      exact outc p s cd nx x3 x4 h1 (by omega) w hs e i hnx m1 a1
    | succ k ih =>
      intro p s cd nx x3 x4 h1 hk hp w hs e i hnx hpp m1 a1
      by_cases cp : p < I.length
      case neg => exact outc p s cd nx x3 x4 h1 (by omega) w hs e i hnx m1 a1
      have r1 := iM_mA r m1
      have ob := o.2 p cp
      by_cases cx : nx ≤ I.getD p 0 ∧ I.getD p 0 ≤ 103
      case neg =>
        have en := rmI_end i e (by omega) (fun _ => cx)
        have q1 := b01_f (fun z => cx ((rg_nI (by omega) (by decide)).mp z) : ¬ rg (nI (I.getD p 0)) nx 103)
        refine ev_aload_n dX12_readMonomial_26 rfl ?_
        refine ev_callV (cl_cur_in r1 o cp a1) ok_X12_current ml_X12_285 rfl rfl rfl rfl (Nat.le_of_ble_eq_true rfl) dX12_readMonomial_27 (kI ?_)
        refine ev_i2l dX12_readMonomial_30 rfl ?_
        refine ev_iload_n dX12_readMonomial_31 rfl ?_
        refine ev_i2lN dX12_readMonomial_32 (by omega) ?_
        refine ev_ldc2 (lN 103) dX12_readMonomial_33 kl_X12_288 ?_
        refine ev_callS (cl_btw2 (a := nx) (b := 103) (nI_l (by omega)).symm rfl (by decide) (by omega)) ok_X12_isBetween ml_X12_79 rfl rfl (Nat.le_of_ble_eq_true rfl) dX12_readMonomial_36 (kI ?_)
        refine ev_if_eqN 119 dX12_readMonomial_39 (by decide) (by omega) (fun c39 => ?_) (fun c39 => ?_)
        · refine ev_iload_n dX12_readMonomial_119 rfl ?_
          refine ev_bipush (nI 97) dX12_readMonomial_120 rfl ?_
          refine ev_icmp_neN 130 dX12_readMonomial_122 (by decide) (by omega) (by omega) (fun c122 => ?_) (fun c122 => ?_)
          · refine ev_iload_n dX12_readMonomial_130 rfl ?_
            refine ev_iret dX12_readMonomial_131 rfl ?_
            obtain ⟨e1, e2, e3, e4⟩ := en.2 c122
            rw [hs] at e4
            exact ⟨m1, p, a1, by omega, Or.inr ⟨s.2.1, by rw [e2], wPs_c w e1, e3, e4⟩⟩
          · refine ev_bipush (-2) dX12_readMonomial_125 rfl ?_
            refine ev_goto 131 dX12_readMonomial_127 (by decide) ?_
            refine ev_iret dX12_readMonomial_131 rfl ?_
            exact ⟨m1, p, a1, by omega, Or.inl ⟨rfl, en.1 (by omega)⟩⟩
        · omega
      have q1 := b01_t ((rg_nI (by omega) (by decide)).mpr cx : rg (nI (I.getD p 0)) nx 103)
      obtain ⟨st1, bd⟩ := rmI_step w i cx
      have w1 := wPs_s w st1
      have nx97 : 97 ≤ nx := by rcases i with z | z <;> omega
      rw [prF_s cp, st1] at e
      simp only at e
      generalize hb : I.getD p 0 = b at *
      have p4 := p46 (show b - 97 < 7 by omega)
      have eS : 2 ^ (2 * (b - 97)) = 4 ^ (b - 97) := by rw [Nat.pow_mul]
      have ma : mA h (m_put h1 67 22 (nI (p + 1))) := m1.tr (mod_f (by simp))
      have aa : (m_put h1 67 22 (nI (p + 1))).1 67 22 = nI (p + 1) := mp_eq _ _ _ _
      have r2 := iM_mA r ma
      have oa : cd ||| 1 * 4 ^ (b - 97) = cd + 4 ^ (b - 97) := by rw [or_add4x bd, Nat.one_mul]
      have fin : (p + 1 < I.length → ¬ (I.getD (p + 1) 0 = 50 ∨ I.getD (p + 1) 0 = 51)) → ∀ x3 x4, Ev G (d + 1) M_X12_readMonomial 26 [some (.ref 67), some (.int (nI (cd ||| 1 * 4 ^ (b - 97)))), some (.int (nI (b + 1))), x3, x4] [] (m_put h1 67 22 (nI (p + 1))) (rmQ h I K R p0) := fun hn x3 x4 => by
        rw [oa]
        exact ih (p + 1) _ (cd + 4 ^ (b - 97)) (b + 1) x3 x4 _ (by omega) (by omega) w1 hs e (Or.inr ⟨Or.inl ⟨rfl, hn⟩, by show b + 1 = b - 97 + 98; omega, rfl, by omega⟩) (by omega) (by omega) ma aa
      by_cases c2 : p + 1 < I.length
      · have ob2 := o.2 (p + 1) c2
        by_cases c3 : I.getD (p + 1) 0 = 50 ∨ I.getD (p + 1) 0 = 51
        · have st2 : pst (I.getD (p + 1) 0) (2, cd + 4 ^ (b - 97), b - 97, s.2.2.2) = some (3, cd + 4 ^ (b - 97) + (I.getD (p + 1) 0 - 48 - 1) * 4 ^ (b - 97), b - 97, s.2.2.2) := by
            unfold pst
            rw [if_neg (by omega), if_neg (by omega), if_pos c3, if_pos rfl]
          have w2 := wPs_s w1 st2
          rw [prF_s c2, st2] at e
          simp only at e
          generalize hb2 : I.getD (p + 1) 0 = b2 at *
          have ob3 : cd ||| (b2 - 48) * 4 ^ (b - 97) = cd + 4 ^ (b - 97) + (b2 - 48 - 1) * 4 ^ (b - 97) := by
            obtain ⟨m, hm⟩ : ∃ m, b2 - 48 = m + 1 := ⟨b2 - 48 - 1, by omega⟩
            rw [or_add4x bd, hm, Nat.add_sub_cancel, Nat.add_mul, Nat.one_mul]
            omega
          have mb : mA h (m_put (m_put h1 67 22 (nI (p + 1))) 67 22 (nI (p + 1 + 1))) := ma.tr (mod_f (by simp))
          have pm : (b2 - 48) * 4 ^ (b - 97) ≤ 3 * 4096 := Nat.mul_le_mul (by omega) p4
          have fin2 : ∀ x3 x4, Ev G (d + 1) M_X12_readMonomial 26 [some (.ref 67), some (.int (nI (cd ||| (b2 - 48) * 4 ^ (b - 97)))), some (.int (nI (b + 1))), x3, x4] [] (m_put (m_put h1 67 22 (nI (p + 1))) 67 22 (nI (p + 1 + 1))) (rmQ h I K R p0) := fun x3 x4 => by
            rw [ob3]
            exact ih (p + 1 + 1) _ _ (b + 1) x3 x4 _ (by omega) (by omega) w2 hs e (Or.inr ⟨Or.inr rfl, by show b + 1 = b - 97 + 98; omega, rfl, by omega⟩) (by omega) (by omega) mb (mp_eq _ _ _ _)
          have ci : Cl G d M_X12_current [.ref 67] (m_put h1 67 22 (nI (p + 1))) (qI (nI b2) (m_put h1 67 22 (nI (p + 1)))) := by rw [← hb2]; exact cl_cur_in r2 o c2 aa
          have c0 : Cl G d M_X12_current [.ref 67] h1 (qI (nI b) h1) := by rw [← hb]; exact cl_cur_in r1 o cp a1
          refine ev_aload_n dX12_readMonomial_26 rfl ?_
          refine ev_callV (c0) ok_X12_current ml_X12_285 rfl rfl rfl rfl (Nat.le_of_ble_eq_true rfl) dX12_readMonomial_27 (kI ?_)
          refine ev_i2l dX12_readMonomial_30 rfl ?_
          refine ev_iload_n dX12_readMonomial_31 rfl ?_
          refine ev_i2lN dX12_readMonomial_32 (by omega) ?_
          refine ev_ldc2 (lN 103) dX12_readMonomial_33 kl_X12_288 ?_
          refine ev_callS (cl_btw2 (a := nx) (b := 103) (nI_l (by omega)).symm rfl (by decide) (by omega)) ok_X12_isBetween ml_X12_79 rfl rfl (Nat.le_of_ble_eq_true rfl) dX12_readMonomial_36 (kI ?_)
          refine ev_if_eqN 119 dX12_readMonomial_39 (by decide) (by omega) (fun c39 => ?_) (fun c39 => ?_)
          · omega
          · refine ev_aload_n dX12_readMonomial_42 rfl ?_
            refine ev_callV (c0) ok_X12_current ml_X12_285 rfl rfl rfl rfl (Nat.le_of_ble_eq_true rfl) dX12_readMonomial_43 (kI ?_)
            refine ev_bipush (nI 97) dX12_readMonomial_46 rfl ?_
            refine ev_isubN dX12_readMonomial_48 (by omega) ?_
            refine ev_ist3 dX12_readMonomial_49 (by decide) rfl ?_
            refine ev_aload_n dX12_readMonomial_50 rfl ?_
            refine ev_callV (c0) ok_X12_current ml_X12_285 rfl rfl rfl rfl (Nat.le_of_ble_eq_true rfl) dX12_readMonomial_51 (kI ?_)
            refine ev_iconst (nI 1) dX12_readMonomial_54 rfl ?_
            refine ev_iaddN dX12_readMonomial_55 ?_
            refine ev_ist2 dX12_readMonomial_56 (by decide) rfl ?_
            refine ev_aload_n dX12_readMonomial_57 rfl ?_
            refine ev_dup dX12_readMonomial_58 rfl ?_
            refine ev_getIv (a1) fl_X12_282 rfl rfl dX12_readMonomial_59 ?_
            refine ev_iconst (nI 1) dX12_readMonomial_62 rfl ?_
            refine ev_iaddN dX12_readMonomial_63 ?_
            refine ev_putI fp_X12_282 rfl rfl rfl rfl dX12_readMonomial_64 ?_
            refine ev_iconst (nI 1) dX12_readMonomial_67 rfl ?_
            refine ev_ist4 dX12_readMonomial_68 (by decide) rfl ?_
            refine ev_aload_n dX12_readMonomial_70 rfl ?_
            refine ev_callV (ci) ok_X12_current ml_X12_285 rfl rfl rfl rfl (Nat.le_of_ble_eq_true rfl) dX12_readMonomial_71 (kI ?_)
            refine ev_bipush (nI 50) dX12_readMonomial_74 rfl ?_
            refine ev_icmp_eqN 88 dX12_readMonomial_76 (by decide) (by omega) (by omega) (fun c76 => ?_) (fun c76 => ?_)
            · refine ev_aload_n dX12_readMonomial_88 rfl ?_
              refine ev_callV (ci) ok_X12_current ml_X12_285 rfl rfl rfl rfl (Nat.le_of_ble_eq_true rfl) dX12_readMonomial_89 (kI ?_)
              refine ev_bipush (nI 48) dX12_readMonomial_92 rfl ?_
              refine ev_isubN dX12_readMonomial_94 (by omega) ?_
              refine ev_ist4 dX12_readMonomial_95 (by decide) rfl ?_
              refine ev_aload_n dX12_readMonomial_97 rfl ?_
              refine ev_dup dX12_readMonomial_98 rfl ?_
              refine ev_getIv (aa) fl_X12_282 rfl rfl dX12_readMonomial_99 ?_
              refine ev_iconst (nI 1) dX12_readMonomial_102 rfl ?_
              refine ev_iaddN dX12_readMonomial_103 ?_
              refine ev_putI fp_X12_282 rfl rfl rfl rfl dX12_readMonomial_104 ?_
              refine ev_iload_n dX12_readMonomial_107 rfl ?_
              refine ev_iload dX12_readMonomial_108 rfl ?_
              refine ev_iconst (nI 2) dX12_readMonomial_110 rfl ?_
              refine ev_iload_n dX12_readMonomial_111 rfl ?_
              refine ev_imulN dX12_readMonomial_112 ?_
              refine ev_ishlN dX12_readMonomial_113 (by omega) (by rw [eS]; omega) ?_
              rw [eS]
              refine ev_iorN dX12_readMonomial_114 ?_
              refine ev_ist1 dX12_readMonomial_115 (by decide) rfl ?_
              refine ev_goto 26 dX12_readMonomial_116 (by decide) ?_
              exact fin2 _ _
            · refine ev_aload_n dX12_readMonomial_79 rfl ?_
              refine ev_callV (ci) ok_X12_current ml_X12_285 rfl rfl rfl rfl (Nat.le_of_ble_eq_true rfl) dX12_readMonomial_80 (kI ?_)
              refine ev_bipush (nI 51) dX12_readMonomial_83 rfl ?_
              refine ev_icmp_neN 107 dX12_readMonomial_85 (by decide) (by omega) (by omega) (fun c85 => ?_) (fun c85 => ?_)
              · omega
              · refine ev_aload_n dX12_readMonomial_88 rfl ?_
                refine ev_callV (ci) ok_X12_current ml_X12_285 rfl rfl rfl rfl (Nat.le_of_ble_eq_true rfl) dX12_readMonomial_89 (kI ?_)
                refine ev_bipush (nI 48) dX12_readMonomial_92 rfl ?_
                refine ev_isubN dX12_readMonomial_94 (by omega) ?_
                refine ev_ist4 dX12_readMonomial_95 (by decide) rfl ?_
                refine ev_aload_n dX12_readMonomial_97 rfl ?_
                refine ev_dup dX12_readMonomial_98 rfl ?_
                refine ev_getIv (aa) fl_X12_282 rfl rfl dX12_readMonomial_99 ?_
                refine ev_iconst (nI 1) dX12_readMonomial_102 rfl ?_
                refine ev_iaddN dX12_readMonomial_103 ?_
                refine ev_putI fp_X12_282 rfl rfl rfl rfl dX12_readMonomial_104 ?_
                refine ev_iload_n dX12_readMonomial_107 rfl ?_
                refine ev_iload dX12_readMonomial_108 rfl ?_
                refine ev_iconst (nI 2) dX12_readMonomial_110 rfl ?_
                refine ev_iload_n dX12_readMonomial_111 rfl ?_
                refine ev_imulN dX12_readMonomial_112 ?_
                refine ev_ishlN dX12_readMonomial_113 (by omega) (by rw [eS]; omega) ?_
                rw [eS]
                refine ev_iorN dX12_readMonomial_114 ?_
                refine ev_ist1 dX12_readMonomial_115 (by decide) rfl ?_
                refine ev_goto 26 dX12_readMonomial_116 (by decide) ?_
                exact fin2 _ _
        · have fin' := fin (fun _ => c3)
          generalize hb2 : I.getD (p + 1) 0 = b2 at *
          have ci : Cl G d M_X12_current [.ref 67] (m_put h1 67 22 (nI (p + 1))) (qI (nI b2) (m_put h1 67 22 (nI (p + 1)))) := by rw [← hb2]; exact cl_cur_in r2 o c2 aa
          have c0 : Cl G d M_X12_current [.ref 67] h1 (qI (nI b) h1) := by rw [← hb]; exact cl_cur_in r1 o cp a1
          refine ev_aload_n dX12_readMonomial_26 rfl ?_
          refine ev_callV (c0) ok_X12_current ml_X12_285 rfl rfl rfl rfl (Nat.le_of_ble_eq_true rfl) dX12_readMonomial_27 (kI ?_)
          refine ev_i2l dX12_readMonomial_30 rfl ?_
          refine ev_iload_n dX12_readMonomial_31 rfl ?_
          refine ev_i2lN dX12_readMonomial_32 (by omega) ?_
          refine ev_ldc2 (lN 103) dX12_readMonomial_33 kl_X12_288 ?_
          refine ev_callS (cl_btw2 (a := nx) (b := 103) (nI_l (by omega)).symm rfl (by decide) (by omega)) ok_X12_isBetween ml_X12_79 rfl rfl (Nat.le_of_ble_eq_true rfl) dX12_readMonomial_36 (kI ?_)
          refine ev_if_eqN 119 dX12_readMonomial_39 (by decide) (by omega) (fun c39 => ?_) (fun c39 => ?_)
          · omega
          · refine ev_aload_n dX12_readMonomial_42 rfl ?_
            refine ev_callV (c0) ok_X12_current ml_X12_285 rfl rfl rfl rfl (Nat.le_of_ble_eq_true rfl) dX12_readMonomial_43 (kI ?_)
            refine ev_bipush (nI 97) dX12_readMonomial_46 rfl ?_
            refine ev_isubN dX12_readMonomial_48 (by omega) ?_
            refine ev_ist3 dX12_readMonomial_49 (by decide) rfl ?_
            refine ev_aload_n dX12_readMonomial_50 rfl ?_
            refine ev_callV (c0) ok_X12_current ml_X12_285 rfl rfl rfl rfl (Nat.le_of_ble_eq_true rfl) dX12_readMonomial_51 (kI ?_)
            refine ev_iconst (nI 1) dX12_readMonomial_54 rfl ?_
            refine ev_iaddN dX12_readMonomial_55 ?_
            refine ev_ist2 dX12_readMonomial_56 (by decide) rfl ?_
            refine ev_aload_n dX12_readMonomial_57 rfl ?_
            refine ev_dup dX12_readMonomial_58 rfl ?_
            refine ev_getIv (a1) fl_X12_282 rfl rfl dX12_readMonomial_59 ?_
            refine ev_iconst (nI 1) dX12_readMonomial_62 rfl ?_
            refine ev_iaddN dX12_readMonomial_63 ?_
            refine ev_putI fp_X12_282 rfl rfl rfl rfl dX12_readMonomial_64 ?_
            refine ev_iconst (nI 1) dX12_readMonomial_67 rfl ?_
            refine ev_ist4 dX12_readMonomial_68 (by decide) rfl ?_
            refine ev_aload_n dX12_readMonomial_70 rfl ?_
            refine ev_callV (ci) ok_X12_current ml_X12_285 rfl rfl rfl rfl (Nat.le_of_ble_eq_true rfl) dX12_readMonomial_71 (kI ?_)
            refine ev_bipush (nI 50) dX12_readMonomial_74 rfl ?_
            refine ev_icmp_eqN 88 dX12_readMonomial_76 (by decide) (by omega) (by omega) (fun c76 => ?_) (fun c76 => ?_)
            · omega
            · refine ev_aload_n dX12_readMonomial_79 rfl ?_
              refine ev_callV (ci) ok_X12_current ml_X12_285 rfl rfl rfl rfl (Nat.le_of_ble_eq_true rfl) dX12_readMonomial_80 (kI ?_)
              refine ev_bipush (nI 51) dX12_readMonomial_83 rfl ?_
              refine ev_icmp_neN 107 dX12_readMonomial_85 (by decide) (by omega) (by omega) (fun c85 => ?_) (fun c85 => ?_)
              · refine ev_iload_n dX12_readMonomial_107 rfl ?_
                refine ev_iload dX12_readMonomial_108 rfl ?_
                refine ev_iconst (nI 2) dX12_readMonomial_110 rfl ?_
                refine ev_iload_n dX12_readMonomial_111 rfl ?_
                refine ev_imulN dX12_readMonomial_112 ?_
                refine ev_ishlN dX12_readMonomial_113 (by omega) (by rw [eS]; omega) ?_
                rw [eS]
                refine ev_iorN dX12_readMonomial_114 ?_
                refine ev_ist1 dX12_readMonomial_115 (by decide) rfl ?_
                refine ev_goto 26 dX12_readMonomial_116 (by decide) ?_
                exact fin' _ _
              · omega
      · have fin' := fin (fun z => absurd z c2)
        have ci : Cl G d M_X12_current [.ref 67] (m_put h1 67 22 (nI (p + 1))) (qI (-1) (m_put h1 67 22 (nI (p + 1)))) := cl_cur_out r2 o (by omega) aa
        have c0 : Cl G d M_X12_current [.ref 67] h1 (qI (nI b) h1) := by rw [← hb]; exact cl_cur_in r1 o cp a1
        refine ev_aload_n dX12_readMonomial_26 rfl ?_
        refine ev_callV (c0) ok_X12_current ml_X12_285 rfl rfl rfl rfl (Nat.le_of_ble_eq_true rfl) dX12_readMonomial_27 (kI ?_)
        refine ev_i2l dX12_readMonomial_30 rfl ?_
        refine ev_iload_n dX12_readMonomial_31 rfl ?_
        refine ev_i2lN dX12_readMonomial_32 (by omega) ?_
        refine ev_ldc2 (lN 103) dX12_readMonomial_33 kl_X12_288 ?_
        refine ev_callS (cl_btw2 (a := nx) (b := 103) (nI_l (by omega)).symm rfl (by decide) (by omega)) ok_X12_isBetween ml_X12_79 rfl rfl (Nat.le_of_ble_eq_true rfl) dX12_readMonomial_36 (kI ?_)
        refine ev_if_eqN 119 dX12_readMonomial_39 (by decide) (by omega) (fun c39 => ?_) (fun c39 => ?_)
        · omega
        · refine ev_aload_n dX12_readMonomial_42 rfl ?_
          refine ev_callV (c0) ok_X12_current ml_X12_285 rfl rfl rfl rfl (Nat.le_of_ble_eq_true rfl) dX12_readMonomial_43 (kI ?_)
          refine ev_bipush (nI 97) dX12_readMonomial_46 rfl ?_
          refine ev_isubN dX12_readMonomial_48 (by omega) ?_
          refine ev_ist3 dX12_readMonomial_49 (by decide) rfl ?_
          refine ev_aload_n dX12_readMonomial_50 rfl ?_
          refine ev_callV (c0) ok_X12_current ml_X12_285 rfl rfl rfl rfl (Nat.le_of_ble_eq_true rfl) dX12_readMonomial_51 (kI ?_)
          refine ev_iconst (nI 1) dX12_readMonomial_54 rfl ?_
          refine ev_iaddN dX12_readMonomial_55 ?_
          refine ev_ist2 dX12_readMonomial_56 (by decide) rfl ?_
          refine ev_aload_n dX12_readMonomial_57 rfl ?_
          refine ev_dup dX12_readMonomial_58 rfl ?_
          refine ev_getIv (a1) fl_X12_282 rfl rfl dX12_readMonomial_59 ?_
          refine ev_iconst (nI 1) dX12_readMonomial_62 rfl ?_
          refine ev_iaddN dX12_readMonomial_63 ?_
          refine ev_putI fp_X12_282 rfl rfl rfl rfl dX12_readMonomial_64 ?_
          refine ev_iconst (nI 1) dX12_readMonomial_67 rfl ?_
          refine ev_ist4 dX12_readMonomial_68 (by decide) rfl ?_
          refine ev_aload_n dX12_readMonomial_70 rfl ?_
          refine ev_callV (ci) ok_X12_current ml_X12_285 rfl rfl rfl rfl (Nat.le_of_ble_eq_true rfl) dX12_readMonomial_71 (kI ?_)
          refine ev_bipush (nI 50) dX12_readMonomial_74 rfl ?_
          refine ev_icmp_eq 88 dX12_readMonomial_76 (by decide) (fun c76 => ?_) (fun c76 => ?_)
          · exact absurd c76 (by decide)
          · refine ev_aload_n dX12_readMonomial_79 rfl ?_
            refine ev_callV (ci) ok_X12_current ml_X12_285 rfl rfl rfl rfl (Nat.le_of_ble_eq_true rfl) dX12_readMonomial_80 (kI ?_)
            refine ev_bipush (nI 51) dX12_readMonomial_83 rfl ?_
            refine ev_icmp_ne 107 dX12_readMonomial_85 (by decide) (fun c85 => ?_) (fun c85 => ?_)
            · refine ev_iload_n dX12_readMonomial_107 rfl ?_
              refine ev_iload dX12_readMonomial_108 rfl ?_
              refine ev_iconst (nI 2) dX12_readMonomial_110 rfl ?_
              refine ev_iload_n dX12_readMonomial_111 rfl ?_
              refine ev_imulN dX12_readMonomial_112 ?_
              refine ev_ishlN dX12_readMonomial_113 (by omega) (by rw [eS]; omega) ?_
              rw [eS]
              refine ev_iorN dX12_readMonomial_114 ?_
              refine ev_ist1 dX12_readMonomial_115 (by decide) rfl ?_
              refine ev_goto 26 dX12_readMonomial_116 (by decide) ?_
              exact fin' _ _
            · exact absurd c85 (by decide)
  have w0 : wPs (0, 0, 0, K) := ⟨by simp, oK, hK, fun z => absurd z (by simp), fun z => absurd z (by simp), fun z => absurd z (by simp)⟩
  by_cases cp : p0 < I.length
  · have ob := o.2 p0 cp
    by_cases c9 : I.getD p0 0 = 49
    · have st1 : pst (I.getD p0 0) (0, 0, 0, K) = some (1, 0, 0, K) := by
        unfold pst
        rw [if_neg (by omega), if_pos c9, if_pos rfl]
      have w1 := wPs_s w0 st1
      rw [prF_s cp, st1] at e0
      simp only at e0
      have af := aft_of (s := (1, 0, 0, K)) (by simp) e0 (fun z hb => by
        unfold pst
        rw [if_neg hb]
        by_cases c1 : I.getD (p0 + 1) 0 = 49
        · rw [if_pos c1, if_neg (by simp)]
        · rw [if_neg c1]
          by_cases c2 : I.getD (p0 + 1) 0 = 50 ∨ I.getD (p0 + 1) 0 = 51
          · rw [if_pos c2, if_neg (by simp)]
          · rw [if_neg c2]
            by_cases c3 : 97 ≤ I.getD (p0 + 1) 0 ∧ I.getD (p0 + 1) 0 ≤ 103
            · rw [if_pos c3, if_neg (by simp), if_pos (Or.inl rfl)]
            · rw [if_neg c3])
      refine ev_start 4 (lv := [some (.ref 67), none, none, none, none]) rfl (by decide) (Nat.le_of_ble_eq_true rfl) ?_
      refine ev_aload_n dX12_readMonomial_0 rfl ?_
      refine ev_callV (cl_cur_in r o cp hat) ok_X12_current ml_X12_285 rfl rfl rfl rfl (Nat.le_of_ble_eq_true rfl) dX12_readMonomial_1 (kI ?_)
      refine ev_bipush (nI 49) dX12_readMonomial_4 rfl ?_
      refine ev_icmp_neN 21 dX12_readMonomial_6 (by decide) (by omega) (by omega) (fun c6 => ?_) (fun c6 => ?_)
      · omega
      · refine ev_aload_n dX12_readMonomial_9 rfl ?_
        refine ev_dup dX12_readMonomial_10 rfl ?_
        refine ev_getIv (hat) fl_X12_282 rfl rfl dX12_readMonomial_11 ?_
        refine ev_iconst (nI 1) dX12_readMonomial_14 rfl ?_
        refine ev_iaddN dX12_readMonomial_15 ?_
        refine ev_putI fp_X12_282 rfl rfl rfl rfl dX12_readMonomial_16 ?_
        refine ev_iconst (nI 0) dX12_readMonomial_19 rfl ?_
        refine ev_iret dX12_readMonomial_20 rfl ?_
        exact ⟨mod_f (by simp), p0 + 1, mp_eq _ _ _ _, by omega, Or.inr ⟨0, rfl, by decide, by omega, af⟩⟩
    · skip
      refine ev_start 4 (lv := [some (.ref 67), none, none, none, none]) rfl (by decide) (Nat.le_of_ble_eq_true rfl) ?_
      refine ev_aload_n dX12_readMonomial_0 rfl ?_
      refine ev_callV (cl_cur_in r o cp hat) ok_X12_current ml_X12_285 rfl rfl rfl rfl (Nat.le_of_ble_eq_true rfl) dX12_readMonomial_1 (kI ?_)
      refine ev_bipush (nI 49) dX12_readMonomial_4 rfl ?_
      refine ev_icmp_neN 21 dX12_readMonomial_6 (by decide) (by omega) (by omega) (fun c6 => ?_) (fun c6 => ?_)
      · refine ev_iconst (nI 0) dX12_readMonomial_21 rfl ?_
        refine ev_ist1 dX12_readMonomial_22 (by decide) rfl ?_
        refine ev_bipush (nI 97) dX12_readMonomial_23 rfl ?_
        refine ev_ist2 dX12_readMonomial_25 (by decide) rfl ?_
        exact loop (I.length - p0) p0 (0, 0, 0, K) 0 97 _ _ h (by omega) (by omega) w0 rfl e0 (Or.inl ⟨rfl, rfl, rfl, fun _ => c9⟩) (by omega) (by omega) mod.rf hat
      · omega
  · skip
    refine ev_start 4 (lv := [some (.ref 67), none, none, none, none]) rfl (by decide) (Nat.le_of_ble_eq_true rfl) ?_
    refine ev_aload_n dX12_readMonomial_0 rfl ?_
    refine ev_callV (cl_cur_out r o (by omega) hat) ok_X12_current ml_X12_285 rfl rfl rfl rfl (Nat.le_of_ble_eq_true rfl) dX12_readMonomial_1 (kI ?_)
    refine ev_bipush (nI 49) dX12_readMonomial_4 rfl ?_
    refine ev_icmp_ne 21 dX12_readMonomial_6 (by decide) (fun c6 => ?_) (fun c6 => ?_)
    · refine ev_iconst (nI 0) dX12_readMonomial_21 rfl ?_
      refine ev_ist1 dX12_readMonomial_22 (by decide) rfl ?_
      refine ev_bipush (nI 97) dX12_readMonomial_23 rfl ?_
      refine ev_ist2 dX12_readMonomial_25 (by decide) rfl ?_
      exact loop (I.length - p0) p0 (0, 0, 0, K) 0 97 _ _ h (by omega) (by omega) w0 rfl e0 (Or.inl ⟨rfl, rfl, rfl, fun z => absurd z cp⟩) (by omega) (by omega) mod.rf hat
    · exact absurd c6 (by decide)
end RDM

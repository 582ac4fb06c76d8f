section INP
variable {G : MG} {d : Nat} {h : MH}
def okI (I : List Nat) : Prop := I.length ≤ 60 ∧ ∀ i, i < I.length → I.getD i 0 < 256
def iM (h : MH) (I : List Nat) : Prop := h.1 67 21 = nI I.length ∧ hold (h.1 80) I
noncomputable def feA (I : List Nat) (x : Int32) : Int32 := aRg x 0 255 (fun _ => if I.length = 60 then -3 else nI (I.length + 1))
noncomputable def feL (I : List Nat) (x : Int32) : List Nat := if b01 (rg x 0 255) = 0 then I else if I.length = 60 then I else I ++ [x.toNatClampNeg]
theorem feL_ok {I : List Nat} {x : Int32} (o : okI I) : okI (feL I x) := by
  unfold feL
  by_cases c : rg x 0 255
  · rw [b01_t c, if_neg (show ¬ 1 = 0 by decide)]
    by_cases e : I.length = 60
    · rw [if_pos e]; exact o
    · rw [if_neg e]
      obtain ⟨j, h1, h2, rfl⟩ := c
      have l := o.1
      rw [nI_clamp (by omega)]
      refine ⟨by rw [List.length_append]; simp; omega, fun i hi => ?_⟩
      rw [List.length_append] at hi
      by_cases q : i = I.length
      · subst q; rw [getD_snoc_e]; omega
      · have : i < I.length := by simp at hi; omega
        rw [getD_snoc_l this]; exact o.2 i this
  · rw [b01_f c, if_pos (show 0 = 0 from rfl)]; exact o
abbrev sI (h h' : MH) : Prop := same (fun k => k ≠ 47 ∧ k ≠ 48) h h'
abbrev mI (h h' : MH) : Prop := mod (fun k => k ≠ 80) (fun j => j ≠ 21) h h'
theorem cl_feedC {I : List Nat} {x : Int32} (r : rowIs h 47 I) (o : okI I) : Cl G (d + 1) M_X11_feed [.ref 0, .int x] h (fun rv h' => rv = some (.int (feA I x)) ∧ sI h h' ∧ rowIs h' 47 (feL I x)) := by
  have l60 := o.1
  unfold feA feL
  by_cases hx : rg x 0 255
  · rw [b01_t hx, if_neg (show ¬ 1 = 0 by decide)]
    obtain ⟨j, h1, h2, rfl⟩ := hx
    rw [aRg_t h1 h2 (by decide)]
    by_cases e : I.length = 60
    · rw [if_pos e, if_pos e]
      refine ev_start 0 (lv := [some (.ref 0), some (.int (nI j))]) rfl (by decide) (Nat.le_of_ble_eq_true rfl) ?_
      refine ev_iload_n dX11_feed_0 rfl ?_
      refine ev_if_ltN 11 dX11_feed_1 (by decide) (by omega) (fun c1 => ?_) (fun c1 => ?_)
      · exact c1.elim
      · refine ev_iload_n dX11_feed_4 rfl ?_
        refine ev_sipush (nI 255) dX11_feed_5 rfl ?_
        refine ev_icmp_leN 13 dX11_feed_8 (by decide) (by omega) (by omega) (fun c8 => ?_) (fun c8 => ?_)
        · refine ev_aload_n dX11_feed_13 rfl ?_
          refine ev_getR fl_X11_60 rfl rfl dX11_feed_14 ?_
          refine ev_getR fl_X11_297 rfl rfl dX11_feed_17 ?_
          refine ev_iload_n dX11_feed_20 rfl ?_
          refine ev_callV (cl_add_full row_47 r.1 (by omega) (by omega)) ok_X7_add ml_X11_256 rfl rfl rfl rfl (Nat.le_of_ble_eq_true rfl) dX11_feed_21 (kI ?_)
          refine ev_if_eqN 40 dX11_feed_24 (by decide) (by omega) (fun c24 => ?_) (fun c24 => ?_)
          · refine ev_bipush (-3) dX11_feed_40 rfl ?_
            refine ev_iret dX11_feed_42 rfl ?_
            exact ⟨rfl, same.rf, r⟩
          · exact absurd c24 (by decide)
        · omega
    · rw [if_neg e, if_neg e, nI_clamp (by omega)]
      refine ev_start 0 (lv := [some (.ref 0), some (.int (nI j))]) rfl (by decide) (Nat.le_of_ble_eq_true rfl) ?_
      refine ev_iload_n dX11_feed_0 rfl ?_
      refine ev_if_ltN 11 dX11_feed_1 (by decide) (by omega) (fun c1 => ?_) (fun c1 => ?_)
      · exact c1.elim
      · refine ev_iload_n dX11_feed_4 rfl ?_
        refine ev_sipush (nI 255) dX11_feed_5 rfl ?_
        refine ev_icmp_leN 13 dX11_feed_8 (by decide) (by omega) (by omega) (fun c8 => ?_) (fun c8 => ?_)
        · refine ev_aload_n dX11_feed_13 rfl ?_
          refine ev_getR fl_X11_60 rfl rfl dX11_feed_14 ?_
          refine ev_getR fl_X11_297 rfl rfl dX11_feed_17 ?_
          refine ev_iload_n dX11_feed_20 rfl ?_
          refine ev_callV (cl_add row_47 r.1 (by omega)) ok_X7_add ml_X11_256 rfl rfl rfl rfl (Nat.le_of_ble_eq_true rfl) dX11_feed_21 (kI ?_)
          refine ev_if_eqN 40 dX11_feed_24 (by decide) (by omega) (fun c24 => ?_) (fun c24 => ?_)
          · exact absurd c24 (by decide)
          · refine ev_aload_n dX11_feed_27 rfl ?_
            refine ev_getR fl_X11_60 rfl rfl dX11_feed_28 ?_
            refine ev_getR fl_X11_297 rfl rfl dX11_feed_31 ?_
            refine ev_getIv (ra_cnt (h := h) (p := 47) (s := I.length) (x := nI j)) fl_X11_148 rfl rfl dX11_feed_34 ?_
            refine ev_goto 42 dX11_feed_37 (by decide) ?_
            refine ev_iret dX11_feed_42 rfl ?_
            exact ⟨rfl, same_add (by decide) (by decide), rowIs_add r⟩
        · omega
  · rw [b01_f hx, if_pos (show 0 = 0 from rfl), aRg_f hx]
    refine ev_start 0 (lv := [some (.ref 0), some (.int x)]) rfl (by decide) (Nat.le_of_ble_eq_true rfl) ?_
    refine ev_iload_n dX11_feed_0 rfl ?_
    refine ev_if_lt 11 dX11_feed_1 (by decide) (fun c1 => ?_) (fun c1 => ?_)
    · refine ev_iconst (-1) dX11_feed_11 rfl ?_
      refine ev_iret dX11_feed_12 rfl ?_
      exact ⟨rfl, same.rf, r⟩
    · refine ev_iload_n dX11_feed_4 rfl ?_
      refine ev_sipush (nI 255) dX11_feed_5 rfl ?_
      refine ev_icmp_le 13 dX11_feed_8 (by decide) (fun c8 => ?_) (fun c8 => ?_)
      · exact absurd ((rg_iff (by decide) (by decide)).mpr ⟨Int32.not_lt.mp c1, c8⟩) hx
      · refine ev_iconst (-1) dX11_feed_11 rfl ?_
        refine ev_iret dX11_feed_12 rfl ?_
        exact ⟨rfl, same.rf, r⟩
theorem cl_feedM {I : List Nat} {x : Int32} (r : iM h I) (o : okI I) : Cl G (d + 1) M_X12_feed [.ref 67, .int x] h (fun rv h' => rv = some (.int (feA I x)) ∧ mI h h' ∧ iM h' (feL I x)) := by
  have l60 := o.1
  unfold feA feL
  by_cases hx : rg x 0 255
  · have q1 := b01_t hx
    rw [q1, if_neg (show ¬ 1 = 0 by decide)]
    obtain ⟨j, h1, h2, rfl⟩ := hx
    rw [aRg_t h1 h2 (by decide)]
    by_cases e : I.length = 60
    · rw [if_pos e, if_pos e]
      refine ev_start 0 (lv := [some (.ref 67), some (.int (nI j))]) rfl (by decide) (Nat.le_of_ble_eq_true rfl) ?_
      refine ev_iload_n dX12_feed_0 rfl ?_
      refine ev_i2l dX12_feed_1 rfl ?_
      refine ev_lconst (lN 0) dX12_feed_2 rfl ?_
      refine ev_ldc2 (lN 255) dX12_feed_3 kl_X12_277 ?_
      refine ev_callS (cl_btw (a := 0) (b := 255) rfl rfl (by decide) (by decide)) ok_X12_isBetween ml_X12_79 rfl rfl (Nat.le_of_ble_eq_true rfl) dX12_feed_6 (kI ?_)
      refine ev_if_neN 14 dX12_feed_9 (by decide) (by omega) (fun c9 => ?_) (fun c9 => ?_)
      · refine ev_aload_n dX12_feed_14 rfl ?_
        refine ev_getIv (r.1) fl_X12_279 rfl rfl dX12_feed_15 ?_
        refine ev_bipush (nI 60) dX12_feed_18 rfl ?_
        refine ev_icmp_neN 26 dX12_feed_20 (by decide) (by omega) (by omega) (fun c20 => ?_) (fun c20 => ?_)
        · omega
        · refine ev_bipush (-3) dX12_feed_23 rfl ?_
          refine ev_iret dX12_feed_25 rfl ?_
          exact ⟨rfl, mod.rf, r⟩
      · omega
    · rw [if_neg e, if_neg e, nI_clamp (by omega)]
      refine ev_start 0 (lv := [some (.ref 67), some (.int (nI j))]) rfl (by decide) (Nat.le_of_ble_eq_true rfl) ?_
      refine ev_iload_n dX12_feed_0 rfl ?_
      refine ev_i2l dX12_feed_1 rfl ?_
      refine ev_lconst (lN 0) dX12_feed_2 rfl ?_
      refine ev_ldc2 (lN 255) dX12_feed_3 kl_X12_277 ?_
      refine ev_callS (cl_btw (a := 0) (b := 255) rfl rfl (by decide) (by decide)) ok_X12_isBetween ml_X12_79 rfl rfl (Nat.le_of_ble_eq_true rfl) dX12_feed_6 (kI ?_)
      refine ev_if_neN 14 dX12_feed_9 (by decide) (by omega) (fun c9 => ?_) (fun c9 => ?_)
      · refine ev_aload_n dX12_feed_14 rfl ?_
        refine ev_getIv (r.1) fl_X12_279 rfl rfl dX12_feed_15 ?_
        refine ev_bipush (nI 60) dX12_feed_18 rfl ?_
        refine ev_icmp_neN 26 dX12_feed_20 (by decide) (by omega) (by omega) (fun c20 => ?_) (fun c20 => ?_)
        · refine ev_aload_n dX12_feed_26 rfl ?_
          refine ev_getR fl_X12_56 rfl rfl dX12_feed_27 ?_
          refine ev_aload_n dX12_feed_30 rfl ?_
          refine ev_getIv (r.1) fl_X12_279 rfl rfl dX12_feed_31 ?_
          refine ev_iload_n dX12_feed_34 rfl ?_
          refine ev_iastN rfl dX12_feed_35 (by omega) (by omega) ?_
          refine ev_aload_n dX12_feed_36 rfl ?_
          refine ev_dup dX12_feed_37 rfl ?_
          refine ev_getIv ((show _ = nI I.length by rw [mp_k (by decide)]; exact r.1)) fl_X12_279 rfl rfl dX12_feed_38 ?_
          refine ev_iconst (nI 1) dX12_feed_41 rfl ?_
          refine ev_iaddN dX12_feed_42 ?_
          refine ev_putI fp_X12_279 rfl rfl rfl rfl dX12_feed_43 ?_
          refine ev_aload_n dX12_feed_46 rfl ?_
          refine ev_getIv ((show _ = nI (I.length + 1) from mp_eq _ _ _ _)) fl_X12_279 rfl rfl dX12_feed_47 ?_
          refine ev_iret dX12_feed_50 rfl ?_
          refine ⟨rfl, (mod_p (by simp) (by decide)).tr (mod_f (by simp)), by rw [mp_eq, List.length_append]; rfl, ?_⟩
          rw [mp_k (by decide), show (m_put h 80 I.length (nI j)).1 80 = upd (h.1 80) I.length (nI j) from ma_eq _ _ _]
          exact hold_snoc r.2
        · omega
      · omega
  · have q1 := b01_f hx
    rw [q1, if_pos (show 0 = 0 from rfl), aRg_f hx]
    refine ev_start 0 (lv := [some (.ref 67), some (.int x)]) rfl (by decide) (Nat.le_of_ble_eq_true rfl) ?_
    refine ev_iload_n dX12_feed_0 rfl ?_
    refine ev_i2l dX12_feed_1 rfl ?_
    refine ev_lconst (lN 0) dX12_feed_2 rfl ?_
    refine ev_ldc2 (lN 255) dX12_feed_3 kl_X12_277 ?_
    refine ev_callS (cl_btw (a := 0) (b := 255) rfl rfl (by decide) (by decide)) ok_X12_isBetween ml_X12_79 rfl rfl (Nat.le_of_ble_eq_true rfl) dX12_feed_6 (kI ?_)
    refine ev_if_neN 14 dX12_feed_9 (by decide) (by omega) (fun c9 => ?_) (fun c9 => ?_)
    · omega
    · refine ev_iconst (-1) dX12_feed_12 rfl ?_
      refine ev_iret dX12_feed_13 rfl ?_
      exact ⟨rfl, mod.rf, r⟩
theorem cl_discardInputC {I : List Nat} (r : rowIs h 47 I) : Cl G d M_X11_discardInput [.ref 0] h (fun rv h' => rv = some (.int (nI I.length)) ∧ sI h h' ∧ rowIs h' 47 []) := by
  refine ev_start 1 (lv := [some (.ref 0), none]) rfl (by decide) (Nat.le_of_ble_eq_true rfl) ?_
  refine ev_aload_n dX11_discardInput_0 rfl ?_
  refine ev_getR fl_X11_60 rfl rfl dX11_discardInput_1 ?_
  refine ev_getR fl_X11_297 rfl rfl dX11_discardInput_4 ?_
  refine ev_getIv (r.1) fl_X11_148 rfl rfl dX11_discardInput_7 ?_
  refine ev_ist1 dX11_discardInput_10 (by decide) rfl ?_
  refine ev_aload_n dX11_discardInput_11 rfl ?_
  refine ev_getR fl_X11_60 rfl rfl dX11_discardInput_12 ?_
  refine ev_getR fl_X11_297 rfl rfl dX11_discardInput_15 ?_
  refine ev_iconst (nI 0) dX11_discardInput_18 rfl ?_
  refine ev_putI fp_X11_148 rfl rfl rfl rfl dX11_discardInput_19 ?_
  refine ev_iload_n dX11_discardInput_22 rfl ?_
  refine ev_iret dX11_discardInput_23 rfl ?_
  exact ⟨rfl, same_put (by decide), mp_eq _ _ _ _, hold_nil _⟩
theorem cl_discardInputM {I : List Nat} (r : iM h I) : Cl G d M_X12_discardInput [.ref 67] h (fun rv h' => rv = some (.int (nI I.length)) ∧ mI h h' ∧ iM h' []) := by
  refine ev_start 1 (lv := [some (.ref 67), none]) rfl (by decide) (Nat.le_of_ble_eq_true rfl) ?_
  refine ev_aload_n dX12_discardInput_0 rfl ?_
  refine ev_getIv (r.1) fl_X12_279 rfl rfl dX12_discardInput_1 ?_
  refine ev_ist1 dX12_discardInput_4 (by decide) rfl ?_
  refine ev_aload_n dX12_discardInput_5 rfl ?_
  refine ev_iconst (nI 0) dX12_discardInput_6 rfl ?_
  refine ev_putI fp_X12_279 rfl rfl rfl rfl dX12_discardInput_7 ?_
  refine ev_iload_n dX12_discardInput_10 rfl ?_
  refine ev_iret dX12_discardInput_11 rfl ?_
  exact ⟨rfl, mod_f (by simp), mp_eq _ _ _ _, hold_nil _⟩
theorem cl_inputLengthC {I : List Nat} (r : rowIs h 47 I) : Cl G d M_X11_inputLength [.ref 0] h (qI (nI I.length) h) := by
  refine ev_start 0 (lv := [some (.ref 0)]) rfl (by decide) (Nat.le_of_ble_eq_true rfl) ?_
  refine ev_aload_n dX11_inputLength_0 rfl ?_
  refine ev_getR fl_X11_60 rfl rfl dX11_inputLength_1 ?_
  refine ev_getR fl_X11_297 rfl rfl dX11_inputLength_4 ?_
  refine ev_getIv (r.1) fl_X11_148 rfl rfl dX11_inputLength_7 ?_
  refine ev_iret dX11_inputLength_10 rfl ?_
  exact ⟨by with_reducible rfl, rfl⟩
theorem cl_inputLengthM {I : List Nat} (r : iM h I) : Cl G d M_X12_inputLength [.ref 67] h (qI (nI I.length) h) := by
  refine ev_start 0 (lv := [some (.ref 67)]) rfl (by decide) (Nat.le_of_ble_eq_true rfl) ?_
  refine ev_aload_n dX12_inputLength_0 rfl ?_
  refine ev_getIv (r.1) fl_X12_279 rfl rfl dX12_inputLength_1 ?_
  refine ev_iret dX12_inputLength_4 rfl ?_
  exact ⟨by with_reducible rfl, rfl⟩
/-! the reader -/
abbrev Ps : Type := Nat × Nat × Nat × List Nat
def pst (b : Nat) (s : Ps) : Option Ps :=
  if b = 44 then (if s.1 = 0 ∨ s.2.2.2.length = 23 then none else some (0, 0, 0, s.2.2.2 ++ [s.2.1]))
  else if b = 49 then (if s.1 = 0 then some (1, 0, 0, s.2.2.2) else none)
  else if b = 50 ∨ b = 51 then (if s.1 = 2 then some (3, s.2.1 + (b - 48 - 1) * 4 ^ s.2.2.1, s.2.2.1, s.2.2.2) else none)
  else if 97 ≤ b ∧ b ≤ 103 then (if s.1 = 0 then some (2, 0 + 4 ^ (b - 97), b - 97, s.2.2.2) else if s.1 = 1 ∨ b - 97 ≤ s.2.2.1 then none else some (2, s.2.1 + 4 ^ (b - 97), b - 97, s.2.2.2))
  else none
def prF (I : List Nat) : Nat → Nat → Ps → Nat ⊕ List Nat
  | 0, p, s => if s.1 = 0 then .inl p else .inr (s.2.2.2 ++ [s.2.1])
  | k + 1, p, s => match pst (I.getD p 0) s with
    | none => .inl p
    | some s' => prF I k (p + 1) s'
def wPs (s : Ps) : Prop := s.1 ≤ 3 ∧ okL s.2.2.2 ∧ s.2.2.2.length ≤ 23 ∧ (s.1 = 1 → s.2.1 = 0) ∧ (s.1 = 2 → s.2.2.1 < 7 ∧ s.2.1 < 2 * 4 ^ s.2.2.1) ∧ (s.1 = 3 → s.2.2.1 < 7 ∧ s.2.1 < 4 * 4 ^ s.2.2.1)
theorem p46 {v : Nat} (hv : v < 7) : 4 ^ v ≤ 4096 := Nat.pow_le_pow_right (n := 4) (i := v) (j := 6) (by decide) (by omega)
theorem wPs_c {s : Ps} (w : wPs s) (h0 : s.1 ≠ 0) : s.2.1 < 16384 := by
  obtain ⟨w1, w2, w3, w4, w5, w6⟩ := w
  rcases (show s.1 = 1 ∨ s.1 = 2 ∨ s.1 = 3 by omega) with e | e | e
  · have := w4 e; omega
  · have := w5 e; have := p46 this.1; omega
  · have := w6 e; have := p46 this.1; omega
theorem p4_lt {u v : Nat} (h : u < v) : 4 * 4 ^ u ≤ 4 ^ v := by
  rw [Nat.mul_comm, ← Nat.pow_succ]; exact Nat.pow_le_pow_right (by decide) (by omega)
theorem wPs_s {b : Nat} {s s' : Ps} (w : wPs s) (e : pst b s = some s') : wPs s' := by
  have wc := wPs_c w
  obtain ⟨w1, w2, w3, w4, w5, w6⟩ := w
  unfold pst at e
  by_cases c1 : b = 44
  · rw [if_pos c1] at e
    by_cases c2 : s.1 = 0 ∨ s.2.2.2.length = 23
    · rw [if_pos c2] at e; cases e
    · rw [if_neg c2] at e; cases e
      exact ⟨by simp, okL_snoc w2 (by omega) (wc (by omega)), by show (s.2.2.2 ++ [s.2.1]).length ≤ 23; rw [List.length_append]; simp; omega, fun z => absurd z (by simp), fun z => absurd z (by simp), fun z => absurd z (by simp)⟩
  · rw [if_neg c1] at e
    by_cases c2 : b = 49
    · rw [if_pos c2] at e
      by_cases c3 : s.1 = 0
      · rw [if_pos c3] at e; cases e
        exact ⟨by simp, w2, w3, fun z => rfl, fun z => absurd z (by simp), fun z => absurd z (by simp)⟩
      · rw [if_neg c3] at e; cases e
    · rw [if_neg c2] at e
      by_cases c3 : b = 50 ∨ b = 51
      · rw [if_pos c3] at e
        by_cases c4 : s.1 = 2
        · rw [if_pos c4] at e; cases e
          have q := w5 c4
          refine ⟨by simp, w2, w3, fun z => absurd z (by simp), fun z => absurd z (by simp), fun z => ⟨q.1, ?_⟩⟩
          show s.2.1 + (b - 48 - 1) * 4 ^ s.2.2.1 < 4 * 4 ^ s.2.2.1
          have : (b - 48 - 1) * 4 ^ s.2.2.1 ≤ 2 * 4 ^ s.2.2.1 := Nat.mul_le_mul_right _ (by omega)
          omega
        · rw [if_neg c4] at e; cases e
      · rw [if_neg c3] at e
        by_cases c4 : 97 ≤ b ∧ b ≤ 103
        · rw [if_pos c4] at e
          have pp := Nat.pow_pos (n := b - 97) (show 0 < 4 by decide)
          by_cases c5 : s.1 = 0
          · rw [if_pos c5] at e; cases e
            exact ⟨by simp, w2, w3, fun z => absurd z (by simp), fun z => ⟨by show b - 97 < 7; omega, by show 0 + 4 ^ (b - 97) < 2 * 4 ^ (b - 97); omega⟩, fun z => absurd z (by simp)⟩
          · rw [if_neg c5] at e
            by_cases c6 : s.1 = 1 ∨ b - 97 ≤ s.2.2.1
            · rw [if_pos c6] at e; cases e
            · rw [if_neg c6] at e; cases e
              have bd : s.2.1 < 4 ^ (b - 97) := by
                have p4 := p4_lt (show s.2.2.1 < b - 97 by omega)
                rcases (show s.1 = 2 ∨ s.1 = 3 by omega) with z | z
                · have := (w5 z).2; omega
                · have := (w6 z).2; omega
              exact ⟨by simp, w2, w3, fun z => absurd z (by simp), fun z => ⟨by show b - 97 < 7; omega, by show s.2.1 + 4 ^ (b - 97) < 2 * 4 ^ (b - 97); omega⟩, fun z => absurd z (by simp)⟩
        · rw [if_neg c4] at e; cases e
end INP

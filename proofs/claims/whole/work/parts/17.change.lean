section CHANGE
variable {G : MG} {d : Nat} {h : MH}
/-- what was reverted to: the matrices before each change, the oldest first -/
def hC (h : MH) (HL : List Nat) : Prop := h.1 32 1 = nI HL.length ∧ ∀ i, i < HL.length → h.2 33 i = lN (HL.getD i 0)
def hM (h : MH) (HL : List Nat) : Prop := h.1 67 3 = nI HL.length ∧ ∀ i, i < HL.length → ∀ v, v < 7 → h.1 69 (7 * i + v) = nI (nb (HL.getD i 0) v)
def pushH (HL : List Nat) (N : Nat) : List Nat := (if HL.length = 12 then HL.tail else HL) ++ [N]
/-- nothing that was derived is known -/
def fresh (h : MH) : Prop := h.1 4 2 = nI 0 ∧ h.1 4 5 = nI 0 ∧ (∀ k, k < 3 → h.1 11 k = nI 0 ∧ h.1 13 k = nI 0) ∧ h.1 26 5 = nI 0
def same (P : Nat → Prop) (h h' : MH) : Prop := ∀ k, P k → h'.1 k = h.1 k ∧ h'.2 k = h.2 k
theorem same.rf {P : Nat → Prop} {h : MH} : same P h h := fun _ _ => ⟨rfl, rfl⟩
theorem same.tr {P : Nat → Prop} {h h1 h2 : MH} (a : same P h h1) (b : same P h1 h2) : same P h h2 := fun k hk => ⟨(b k hk).1.trans (a k hk).1, (b k hk).2.trans (a k hk).2⟩
theorem same.mono {P Q : Nat → Prop} {h h' : MH} (a : same P h h') (pq : ∀ k, Q k → P k) : same Q h h' := fun k hk => a k (pq k hk)
theorem same_put {P : Nat → Prop} {h : MH} {k j : Nat} {v : Int32} (hk : ¬ P k) : same P h (m_put h k j v) := fun k' h' => ⟨mp_k (fun e => hk (e ▸ h')), rfl⟩
theorem same_putL {P : Nat → Prop} {h : MH} {k j : Nat} {v : Int64} (hk : ¬ P k) : same P h (m_putL h k j v) := fun k' h' => ⟨rfl, ml_k (fun e => hk (e ▸ h'))⟩
theorem same_putA {P : Nat → Prop} {h : MH} {k : Nat} {f : Nat → Int32} (hk : ¬ P k) : same P h (m_putA h k f) := fun k' h' => ⟨ma_k (fun e => hk (e ▸ h')), rfl⟩
theorem same_putAL {P : Nat → Prop} {h : MH} {k : Nat} {f : Nat → Int64} (hk : ¬ P k) : same P h (m_putAL h k f) := fun k' h' => ⟨rfl, mal_k (fun e => hk (e ▸ h'))⟩
theorem same_aH {P : Nat → Prop} {h : MH} {p j a s : Nat} {f : Nat → Int32} (hp : ¬ P p) (ha : ¬ P a) : same P h (aH h p j a s f) := fun k hk => ⟨aH_k (fun e => hp (e ▸ hk)) (fun e => ha (e ▸ hk)), rfl⟩
theorem cl_forgetI : Cl G d M_X2_forget [.ref 4] h (fun rv h' => rv = none ∧ same (fun k => k ≠ 4 ∧ k ≠ 11 ∧ k ≠ 13) h h' ∧ h'.1 4 2 = nI 0 ∧ h'.1 4 5 = nI 0 ∧ ∀ k, k < 3 → h'.1 11 k = nI 0 ∧ h'.1 13 k = nI 0) := by
  have loop : ∀ (k i : Nat) (h1 : MH), i + k = 3 → same (fun k => k ≠ 4 ∧ k ≠ 11 ∧ k ≠ 13) h h1 → h1.1 4 2 = nI 0 → h1.1 4 5 = nI 0 → (∀ k, k < i → h1.1 11 k = nI 0 ∧ h1.1 13 k = nI 0) → Ev G d M_X2_forget 12 [some (.ref 4), some (.int (nI i))] [] h1 (fun rv h' => rv = none ∧ same (fun k => k ≠ 4 ∧ k ≠ 11 ∧ k ≠ 13) h h' ∧ h'.1 4 2 = nI 0 ∧ h'.1 4 5 = nI 0 ∧ ∀ k, k < 3 → h'.1 11 k = nI 0 ∧ h'.1 13 k = nI 0) := by
    intro k
    induction k with
    | zero =>
      intro i h1 hi hs e1 e2 e3
      refine ev_iload_n dX2_forget_12 rfl ?_
      refine ev_iconst (nI 3) dX2_forget_13 rfl ?_
      refine ev_icmp_geN 37 dX2_forget_14 (by decide) (by omega) (by omega) (fun c14 => ?_) (fun c14 => ?_)
      · refine ev_ret dX2_forget_37 rfl ?_
        exact ⟨rfl, hs, e1, e2, fun k hk => e3 k (by omega)⟩
      · omega
    | succ k ih =>
      intro i h1 hi hs e1 e2 e3
      refine ev_iload_n dX2_forget_12 rfl ?_
      refine ev_iconst (nI 3) dX2_forget_13 rfl ?_
      refine ev_icmp_geN 37 dX2_forget_14 (by decide) (by omega) (by omega) (fun c14 => ?_) (fun c14 => ?_)
      · omega
      · refine ev_aload_n dX2_forget_17 rfl ?_
        refine ev_getR fl_X2_37 rfl rfl dX2_forget_18 ?_
        refine ev_iload_n dX2_forget_21 rfl ?_
        refine ev_iconst (nI 0) dX2_forget_22 rfl ?_
        refine ev_zastN rfl dX2_forget_23 (by omega) (by omega) rfl ?_
        refine ev_aload_n dX2_forget_24 rfl ?_
        refine ev_getR fl_X2_44 rfl rfl dX2_forget_25 ?_
        refine ev_iload_n dX2_forget_28 rfl ?_
        refine ev_iconst (nI 0) dX2_forget_29 rfl ?_
        refine ev_zastN rfl dX2_forget_30 (by omega) (by omega) rfl ?_
        refine ev_inc1N dX2_forget_31 (by decide) rfl ?_
        refine ev_goto 12 dX2_forget_34 (by decide) ?_
        refine ih (i + 1) _ (by omega) ((hs.tr (same_put (by simp))).tr (same_put (by simp))) (by rw [mp_k (by decide), mp_k (by decide)]; exact e1) (by rw [mp_k (by decide), mp_k (by decide)]; exact e2) (fun k hk => ?_)
        by_cases e : k = i
        · subst e
          rw [mp_k (k' := 11) (by decide), mp_eq, mp_eq]; exact ⟨rfl, rfl⟩
        · rw [mp_k (k' := 11) (by decide), mp_j e, mp_j e, mp_k (k' := 13) (by decide)]; exact e3 k (by omega)
  refine ev_start 1 (lv := [some (.ref 4), none]) rfl (by decide) (Nat.le_of_ble_eq_true rfl) ?_
  refine ev_aload_n dX2_forget_0 rfl ?_
  refine ev_iconst (nI 0) dX2_forget_1 rfl ?_
  refine ev_putI fp_X2_47 rfl rfl rfl rfl dX2_forget_2 ?_
  refine ev_aload_n dX2_forget_5 rfl ?_
  refine ev_iconst (nI 0) dX2_forget_6 rfl ?_
  refine ev_putI fp_X2_51 rfl rfl rfl rfl dX2_forget_7 ?_
  refine ev_iconst (nI 0) dX2_forget_10 rfl ?_
  refine ev_ist1 dX2_forget_11 (by decide) rfl ?_
  exact loop 3 0 _ (by omega) ((same_put (by simp)).tr (same_put (by simp))) (by rw [mp_j (by decide), mp_eq]) (by rw [mp_eq]) (fun k hk => absurd hk (by omega))
theorem cl_forgetQ : Cl G d M_X4_forget [.ref 26] h (qV (m_put h 26 5 (nI 0))) := by
  refine ev_start 0 (lv := [some (.ref 26)]) rfl (by decide) (Nat.le_of_ble_eq_true rfl) ?_
  refine ev_aload_n dX4_forget_0 rfl ?_
  refine ev_iconst (nI 0) dX4_forget_1 rfl ?_
  refine ev_putI fp_X4_37 rfl rfl rfl rfl dX4_forget_2 ?_
  refine ev_ret dX4_forget_5 rfl ?_
  exact ⟨by with_reducible rfl, rfl⟩
def gone (k : Nat) : Prop := k = 1 ∨ k = 4 ∨ k = 11 ∨ k = 13 ∨ k = 26
theorem cl_replaceGraph {n N : Nat} : Cl G (d + 1) M_X11_replaceGraph [.ref 0, .int (nI n), .long (lN N)] h (fun rv h' => rv = none ∧ same (fun k => ¬ gone k) h h' ∧ gC h' n N ∧ fresh h') := by
  refine ev_start 0 (lv := [some (.ref 0), some (.int (nI n)), some (.long (lN N)), none]) rfl (by decide) (Nat.le_of_ble_eq_true rfl) ?_
  refine ev_aload_n dX11_replaceGraph_0 rfl ?_
  refine ev_getR fl_X11_14 rfl rfl dX11_replaceGraph_1 ?_
  refine ev_iload_n dX11_replaceGraph_4 rfl ?_
  refine ev_putI fp_X11_78 rfl rfl rfl rfl dX11_replaceGraph_5 ?_
  refine ev_aload_n dX11_replaceGraph_8 rfl ?_
  refine ev_getR fl_X11_14 rfl rfl dX11_replaceGraph_9 ?_
  refine ev_lload_n dX11_replaceGraph_12 rfl ?_
  refine ev_putL fp_X11_93 rfl rfl dX11_replaceGraph_13 ?_
  refine ev_aload_n dX11_replaceGraph_16 rfl ?_
  refine ev_getR fl_X11_23 rfl rfl dX11_replaceGraph_17 ?_
  refine ev_callV (cl_forgetI) ok_X2_forget ml_X11_124 rfl rfl rfl rfl (Nat.le_of_ble_eq_true rfl) dX11_replaceGraph_20 ?_
  rintro rv h1 ⟨rfl, hs, e1, e2, e3⟩
  refine ev_aload_n dX11_replaceGraph_23 rfl ?_
  refine ev_getR fl_X11_32 rfl rfl dX11_replaceGraph_24 ?_
  refine ev_callV (cl_forgetQ) ok_X4_forget ml_X11_127 rfl rfl rfl rfl (Nat.le_of_ble_eq_true rfl) dX11_replaceGraph_27 (kV ?_)
  refine ev_ret dX11_replaceGraph_30 rfl ?_
  refine ⟨rfl, ?_, ⟨?_, ?_⟩, ?_, ?_, ?_, ?_⟩
  · intro k hk
    simp only [gone, not_or] at hk
    obtain ⟨k1, k2, k3, k4, k5⟩ := hk
    have q := hs k ⟨k2, k3, k4⟩
    refine ⟨?_, ?_⟩
    · rw [mp_k k5, q.1, ml_1, mp_k k1]
    · rw [mp_2, q.2, ml_k k1]; rfl
  · rw [mp_k (by decide), (hs 1 (by decide)).1, ml_1, mp_eq]
  · rw [mp_2, (hs 1 (by decide)).2, ml_eq]
  · rw [mp_k (by decide), e1]
  · rw [mp_k (by decide), e2]
  · intro k hk
    rw [mp_k (by decide), mp_k (by decide)]; exact e3 k hk
  · rw [mp_eq]
theorem cl_push {HL : List Nat} {N : Nat} (hh : hC h HL) (hl : HL.length ≤ 12) : Cl G (d + 1) M_X0_push [.ref 32, .long (lN N)] h (fun rv h' => rv = none ∧ same (fun k => k ≠ 32 ∧ k ≠ 33) h h' ∧ hC h' (pushH HL N)) := by
  obtain ⟨h1, h2⟩ := hh
  by_cases e : HL.length = 12
  · have hp : pushH HL N = HL.tail ++ [N] := by unfold pushH; rw [if_pos e]
    have hlen : (pushH HL N).length = 12 := by rw [hp]; simp; omega
    rw [e] at h1
    refine ev_start 0 (lv := [some (.ref 32), some (.long (lN N)), none]) rfl (by decide) (Nat.le_of_ble_eq_true rfl) ?_
    refine ev_aload_n dX0_push_0 rfl ?_
    refine ev_getIv (h1) fl_X0_13 rfl rfl dX0_push_1 ?_
    refine ev_bipush (nI 12) dX0_push_4 rfl ?_
    refine ev_icmp_neN 30 dX0_push_6 (by decide) (by omega) (by omega) (fun c6 => ?_) (fun c6 => ?_)
    · exact absurd rfl c6
    · refine ev_aload_n dX0_push_9 rfl ?_
      refine ev_getR fl_X0_9 rfl rfl dX0_push_10 ?_
      refine ev_iconst (nI 1) dX0_push_13 rfl ?_
      refine ev_aload_n dX0_push_14 rfl ?_
      refine ev_getR fl_X0_9 rfl rfl dX0_push_15 ?_
      refine ev_iconst (nI 0) dX0_push_18 rfl ?_
      refine ev_bipush (nI 11) dX0_push_19 rfl ?_
      refine ev_acopyL ml_X0_17 (Nat.le_of_ble_eq_true rfl) rfl rfl dX0_push_21 (by omega) (by omega) (by omega) (by omega) ?_
      refine ev_aload_n dX0_push_24 rfl ?_
      refine ev_bipush (nI 11) dX0_push_25 rfl ?_
      refine ev_putI fp_X0_13 rfl rfl rfl rfl dX0_push_27 ?_
      refine ev_aload_n dX0_push_30 rfl ?_
      refine ev_getR fl_X0_9 rfl rfl dX0_push_31 ?_
      refine ev_aload_n dX0_push_34 rfl ?_
      refine ev_getIv ((show _ = nI 11 by rw [mp_eq])) fl_X0_13 rfl rfl dX0_push_35 ?_
      refine ev_lload_n dX0_push_38 rfl ?_
      refine ev_lastN rfl dX0_push_39 (by omega) (by omega) ?_
      refine ev_aload_n dX0_push_40 rfl ?_
      refine ev_dup dX0_push_41 rfl ?_
      refine ev_getIv ((show _ = nI 11 by rw [ml_1, mp_eq])) fl_X0_13 rfl rfl dX0_push_42 ?_
      refine ev_iconst (nI 1) dX0_push_45 rfl ?_
      refine ev_iaddN dX0_push_46 ?_
      refine ev_putI fp_X0_13 rfl rfl rfl rfl dX0_push_47 ?_
      refine ev_ret dX0_push_50 rfl ?_
      refine ⟨rfl, ?_, ?_, ?_⟩
      · exact ((((same_putAL (by simp)).tr (same_put (by simp))).tr (same_putL (by simp))).tr (same_put (by simp)))
      · rw [mp_eq, hlen]
      · intro i hi
        rw [hlen] at hi
        rw [mp_2, hp]
        by_cases e2 : i = 11
        · subst e2
          rw [ml_eq, List.getD_eq_getElem?_getD, List.getElem?_append_right (by simp; omega)]
          simp [e]
        · rw [ml_j e2, mp_2, mal_eq, pk_cpy_in (by omega) (by omega), h2 _ (by omega), List.getD_eq_getElem?_getD, List.getD_eq_getElem?_getD, List.getElem?_append_left (by simp; omega)]
          rw [show 1 + (i - 0) = i + 1 by omega]
          simp [List.getElem?_tail]
  · have hp : pushH HL N = HL ++ [N] := by unfold pushH; rw [if_neg e]
    have hlen : (pushH HL N).length = HL.length + 1 := by rw [hp]; simp
    refine ev_start 0 (lv := [some (.ref 32), some (.long (lN N)), none]) rfl (by decide) (Nat.le_of_ble_eq_true rfl) ?_
    refine ev_aload_n dX0_push_0 rfl ?_
    refine ev_getIv (h1) fl_X0_13 rfl rfl dX0_push_1 ?_
    refine ev_bipush (nI 12) dX0_push_4 rfl ?_
    refine ev_icmp_neN 30 dX0_push_6 (by decide) (by omega) (by omega) (fun c6 => ?_) (fun c6 => ?_)
    · refine ev_aload_n dX0_push_30 rfl ?_
      refine ev_getR fl_X0_9 rfl rfl dX0_push_31 ?_
      refine ev_aload_n dX0_push_34 rfl ?_
      refine ev_getIv (h1) fl_X0_13 rfl rfl dX0_push_35 ?_
      refine ev_lload_n dX0_push_38 rfl ?_
      refine ev_lastN rfl dX0_push_39 (by omega) (by omega) ?_
      refine ev_aload_n dX0_push_40 rfl ?_
      refine ev_dup dX0_push_41 rfl ?_
      refine ev_getIv ((show _ = nI HL.length by rw [ml_1, h1])) fl_X0_13 rfl rfl dX0_push_42 ?_
      refine ev_iconst (nI 1) dX0_push_45 rfl ?_
      refine ev_iaddN dX0_push_46 ?_
      refine ev_putI fp_X0_13 rfl rfl rfl rfl dX0_push_47 ?_
      refine ev_ret dX0_push_50 rfl ?_
      refine ⟨rfl, ?_, ?_, ?_⟩
      · exact ((same_putL (by simp)).tr (same_put (by simp)))
      · rw [mp_eq, hlen]
      · intro i hi
        rw [hlen] at hi
        rw [mp_2, hp]
        by_cases e2 : i = HL.length
        · subst e2
          rw [ml_eq, List.getD_eq_getElem?_getD, List.getElem?_append_right (by omega)]
          simp
        · rw [ml_j e2, h2 _ (by omega), List.getD_eq_getElem?_getD, List.getD_eq_getElem?_getD, List.getElem?_append_left (by omega)]
    · exact absurd c6 e
theorem cl_pop {HL : List Nat} {N : Nat} (hh : hC h (HL ++ [N])) (hl : HL.length < 12) : Cl G d M_X0_pop [.ref 32] h (fun rv h' => rv = some (.long (lN N)) ∧ same (fun k => k ≠ 32 ∧ k ≠ 33) h h' ∧ hC h' HL) := by
  obtain ⟨h1, h2⟩ := hh
  rw [List.length_append, List.length_singleton] at h1 h2
  have hv : h.2 33 HL.length = lN N := by
    rw [h2 _ (by omega), List.getD_eq_getElem?_getD, List.getElem?_append_right (by omega)]; simp
  have e1 : HL.length + 1 - 1 = HL.length := by omega
  refine ev_start 0 (lv := [some (.ref 32)]) rfl (by decide) (Nat.le_of_ble_eq_true rfl) ?_
  refine ev_aload_n dX0_pop_0 rfl ?_
  refine ev_getIv (h1) fl_X0_13 rfl rfl dX0_pop_1 ?_
  refine ev_if_neN 9 dX0_pop_4 (by decide) (by omega) (fun c4 => ?_) (fun c4 => ?_)
  · refine ev_aload_n dX0_pop_9 rfl ?_
    refine ev_dup dX0_pop_10 rfl ?_
    refine ev_getIv (h1) fl_X0_13 rfl rfl dX0_pop_11 ?_
    refine ev_iconst (nI 1) dX0_pop_14 rfl ?_
    refine ev_isubN dX0_pop_15 (by omega) ?_
    rw [e1]
    refine ev_putI fp_X0_13 rfl rfl rfl rfl dX0_pop_16 ?_
    refine ev_aload_n dX0_pop_19 rfl ?_
    refine ev_getR fl_X0_9 rfl rfl dX0_pop_20 ?_
    refine ev_aload_n dX0_pop_23 rfl ?_
    refine ev_getIv ((show _ = nI HL.length by rw [mp_eq])) fl_X0_13 rfl rfl dX0_pop_24 ?_
    refine ev_laldN rfl dX0_pop_27 (by omega) (by omega) ?_
    refine ev_lret dX0_pop_28 rfl ?_
    refine ⟨by rw [mp_2, hv], same_put (by simp), by rw [mp_eq], fun i hi => ?_⟩
    rw [mp_2, h2 i (by omega), List.getD_eq_getElem?_getD, List.getD_eq_getElem?_getD, List.getElem?_append_left (by omega)]
  · omega
theorem cl_recordChange {n N K : Nat} {HL : List Nat} (g : gC h n N) (hh : hC h HL) (hl : HL.length ≤ 12) : Cl G (d + 2) M_X11_recordChange [.ref 0, .long (lN K)] h (fun rv h' => rv = none ∧ same (fun k => ¬ gone k ∧ k ≠ 32 ∧ k ≠ 33) h h' ∧ gC h' n K ∧ hC h' (pushH HL N) ∧ fresh h') := by
  refine ev_start 0 (lv := [some (.ref 0), some (.long (lN K)), none]) rfl (by decide) (Nat.le_of_ble_eq_true rfl) ?_
  refine ev_aload_n dX11_recordChange_0 rfl ?_
  refine ev_getR fl_X11_39 rfl rfl dX11_recordChange_1 ?_
  refine ev_aload_n dX11_recordChange_4 rfl ?_
  refine ev_getR fl_X11_14 rfl rfl dX11_recordChange_5 ?_
  refine ev_getLv (g.2) fl_X11_93 rfl rfl dX11_recordChange_8 ?_
  refine ev_callV (cl_push hh hl) ok_X0_push ml_X11_121 rfl rfl rfl rfl (Nat.le_of_ble_eq_true rfl) dX11_recordChange_11 ?_
  rintro rv h1 ⟨rfl, hs, hh1⟩
  refine ev_aload_n dX11_recordChange_14 rfl ?_
  refine ev_aload_n dX11_recordChange_15 rfl ?_
  refine ev_getR fl_X11_14 rfl rfl dX11_recordChange_16 ?_
  refine ev_getIv ((show _ = nI n by rw [(hs 1 (by decide)).1]; exact g.1)) fl_X11_78 rfl rfl dX11_recordChange_19 ?_
  refine ev_lload_n dX11_recordChange_22 rfl ?_
  refine ev_callV (cl_replaceGraph) ok_X11_replaceGraph ml_X11_82 rfl rfl rfl rfl (Nat.le_of_ble_eq_true rfl) dX11_recordChange_23 ?_
  rintro rv h2 ⟨rfl, hs2, g2, f2⟩
  refine ev_ret dX11_recordChange_26 rfl ?_
  refine ⟨rfl, fun k hk => ?_, g2, ?_, f2⟩
  · have a := hs k ⟨hk.2.1, hk.2.2⟩
    have b := hs2 k hk.1
    exact ⟨b.1.trans a.1, b.2.trans a.2⟩
  · exact ⟨by rw [(hs2 32 (by simp [gone])).1]; exact hh1.1, fun i hi => by rw [(hs2 33 (by simp [gone])).2]; exact hh1.2 i hi⟩
theorem cl_setVertexCountC {n N j : Nat} (g : gC h n N) (h1 : 1 ≤ j) (h2 : j ≤ 7) : Cl G (d + 2) M_X11_setVertexCount [.ref 0, .int (nI j)] h (fun rv h' => rv = some (.int (nI n)) ∧ same (fun k => ¬ gone k ∧ k ≠ 32) h h' ∧ gC h' j 0 ∧ hC h' [] ∧ fresh h') := by
  refine ev_start 1 (lv := [some (.ref 0), some (.int (nI j)), none]) rfl (by decide) (Nat.le_of_ble_eq_true rfl) ?_
  refine ev_iload_n dX11_setVertexCount_0 rfl ?_
  refine ev_iconst (nI 1) dX11_setVertexCount_1 rfl ?_
  refine ev_icmp_ltN 11 dX11_setVertexCount_2 (by decide) (by omega) (by omega) (fun c2 => ?_) (fun c2 => ?_)
  · omega
  · refine ev_iload_n dX11_setVertexCount_5 rfl ?_
    refine ev_bipush (nI 7) dX11_setVertexCount_6 rfl ?_
    refine ev_icmp_leN 13 dX11_setVertexCount_8 (by decide) (by omega) (by omega) (fun c8 => ?_) (fun c8 => ?_)
    · refine ev_aload_n dX11_setVertexCount_13 rfl ?_
      refine ev_getR fl_X11_14 rfl rfl dX11_setVertexCount_14 ?_
      refine ev_getIv (g.1) fl_X11_78 rfl rfl dX11_setVertexCount_17 ?_
      refine ev_ist2 dX11_setVertexCount_20 (by decide) rfl ?_
      refine ev_aload_n dX11_setVertexCount_21 rfl ?_
      refine ev_iload_n dX11_setVertexCount_22 rfl ?_
      refine ev_lconst (lN 0) dX11_setVertexCount_23 rfl ?_
      refine ev_callV (cl_replaceGraph) ok_X11_replaceGraph ml_X11_82 rfl rfl rfl rfl (Nat.le_of_ble_eq_true rfl) dX11_setVertexCount_24 ?_
      rintro rv h1 ⟨rfl, hs, g1, f1⟩
      refine ev_aload_n dX11_setVertexCount_27 rfl ?_
      refine ev_getR fl_X11_39 rfl rfl dX11_setVertexCount_28 ?_
      refine ev_iconst (nI 0) dX11_setVertexCount_31 rfl ?_
      refine ev_putI fp_X11_86 rfl rfl rfl rfl dX11_setVertexCount_32 ?_
      refine ev_iload_n dX11_setVertexCount_35 rfl ?_
      refine ev_iret dX11_setVertexCount_36 rfl ?_
      refine ⟨rfl, fun k hk => ?_, ⟨?_, g1.2⟩, ⟨by rw [mp_eq]; rfl, fun i hi => absurd hi (by simp)⟩, ?_⟩
      · have a := hs k hk.1
        exact ⟨(mp_k hk.2).trans a.1, a.2⟩
      · rw [mp_k (by decide)]; exact g1.1
      · obtain ⟨f1, f2, f3, f4⟩ := f1
        exact ⟨by rw [mp_k (by decide)]; exact f1, by rw [mp_k (by decide)]; exact f2, fun k hk => by rw [mp_k (by decide), mp_k (by decide)]; exact f3 k hk, by rw [mp_k (by decide)]; exact f4⟩
    · omega
theorem cl_setVertexCountC_bad {x : Int32} (hx : ¬ rg x 1 7) : Cl G d M_X11_setVertexCount [.ref 0, .int x] h (qI (-1) h) := by
  rw [rg_iff (by decide) (by decide)] at hx
  refine ev_start 1 (lv := [some (.ref 0), some (.int x), none]) rfl (by decide) (Nat.le_of_ble_eq_true rfl) ?_
  refine ev_iload_n dX11_setVertexCount_0 rfl ?_
  refine ev_iconst (nI 1) dX11_setVertexCount_1 rfl ?_
  refine ev_icmp_lt 11 dX11_setVertexCount_2 (by decide) (fun c2 => ?_) (fun c2 => ?_)
  · refine ev_iconst (-1) dX11_setVertexCount_11 rfl ?_
    refine ev_iret dX11_setVertexCount_12 rfl ?_
    exact ⟨by with_reducible rfl, rfl⟩
  · refine ev_iload_n dX11_setVertexCount_5 rfl ?_
    refine ev_bipush (nI 7) dX11_setVertexCount_6 rfl ?_
    refine ev_icmp_le 13 dX11_setVertexCount_8 (by decide) (fun c8 => ?_) (fun c8 => ?_)
    · exact absurd ⟨Int32.not_lt.mp c2, c8⟩ hx
    · refine ev_iconst (-1) dX11_setVertexCount_11 rfl ?_
      refine ev_iret dX11_setVertexCount_12 rfl ?_
      exact ⟨by with_reducible rfl, rfl⟩
theorem cl_revertChangeC {n N K : Nat} {HL : List Nat} (g : gC h n N) (hh : hC h (HL ++ [K])) (hl : HL.length < 12) : Cl G (d + 2) M_X11_revertChange [.ref 0] h (fun rv h' => rv = some (.int (nI HL.length)) ∧ same (fun k => ¬ gone k ∧ k ≠ 32 ∧ k ≠ 33) h h' ∧ gC h' n K ∧ hC h' HL ∧ fresh h') := by
  have h1 := hh.1
  rw [List.length_append, List.length_singleton] at h1
  refine ev_start 0 (lv := [some (.ref 0)]) rfl (by decide) (Nat.le_of_ble_eq_true rfl) ?_
  refine ev_aload_n dX11_revertChange_0 rfl ?_
  refine ev_getR fl_X11_39 rfl rfl dX11_revertChange_1 ?_
  refine ev_getIv (h1) fl_X11_86 rfl rfl dX11_revertChange_4 ?_
  refine ev_if_neN 13 dX11_revertChange_7 (by decide) (by omega) (fun c7 => ?_) (fun c7 => ?_)
  · refine ev_aload_n dX11_revertChange_13 rfl ?_
    refine ev_aload_n dX11_revertChange_14 rfl ?_
    refine ev_getR fl_X11_14 rfl rfl dX11_revertChange_15 ?_
    refine ev_getIv (g.1) fl_X11_78 rfl rfl dX11_revertChange_18 ?_
    refine ev_aload_n dX11_revertChange_21 rfl ?_
    refine ev_getR fl_X11_39 rfl rfl dX11_revertChange_22 ?_
    refine ev_callV (cl_pop hh hl) ok_X0_pop ml_X11_117 rfl rfl rfl rfl (Nat.le_of_ble_eq_true rfl) dX11_revertChange_25 ?_
    rintro rv h2 ⟨rfl, hs, hh2⟩
    refine ev_callV (cl_replaceGraph) ok_X11_replaceGraph ml_X11_82 rfl rfl rfl rfl (Nat.le_of_ble_eq_true rfl) dX11_revertChange_28 ?_
    rintro rv h3 ⟨rfl, hs3, g3, f3⟩
    refine ev_aload_n dX11_revertChange_31 rfl ?_
    refine ev_getR fl_X11_39 rfl rfl dX11_revertChange_32 ?_
    refine ev_getIv ((show _ = nI HL.length by rw [(hs3 32 (by simp [gone])).1]; exact hh2.1)) fl_X11_86 rfl rfl dX11_revertChange_35 ?_
    refine ev_iret dX11_revertChange_38 rfl ?_
    refine ⟨rfl, fun k hk => ?_, g3, ?_, f3⟩
    · have a := hs k ⟨hk.2.1, hk.2.2⟩
      have b := hs3 k hk.1
      exact ⟨b.1.trans a.1, b.2.trans a.2⟩
    · exact ⟨by rw [(hs3 32 (by simp [gone])).1]; exact hh2.1, fun i hi => by rw [(hs3 33 (by simp [gone])).2]; exact hh2.2 i hi⟩
  · omega
theorem cl_revertChangeC_bad (hh : hC h []) : Cl G d M_X11_revertChange [.ref 0] h (qI (-5) h) := by
  have h1 : h.1 32 1 = nI 0 := hh.1
  refine ev_start 0 (lv := [some (.ref 0)]) rfl (by decide) (Nat.le_of_ble_eq_true rfl) ?_
  refine ev_aload_n dX11_revertChange_0 rfl ?_
  refine ev_getR fl_X11_39 rfl rfl dX11_revertChange_1 ?_
  refine ev_getIv (h1) fl_X11_86 rfl rfl dX11_revertChange_4 ?_
  refine ev_if_neN 13 dX11_revertChange_7 (by decide) (by omega) (fun c7 => ?_) (fun c7 => ?_)
  · exact absurd rfl c7
  · refine ev_bipush (-5) dX11_revertChange_10 rfl ?_
    refine ev_iret dX11_revertChange_12 rfl ?_
    exact ⟨by with_reducible rfl, rfl⟩
theorem cl_toggleEdgeC {n N u v : Nat} {HL : List Nat} (g : gC h n N) (ok : gOK n N) (hh : hC h HL) (hl : HL.length ≤ 12) (hu : u < n) (hv : v < n) (huv : u ≠ v) : Cl G (d + 3) M_X11_toggleEdge [.ref 0, .int (nI u), .int (nI v)] h (fun rv h' => rv = some (.int (nI (b01 ((nb (N ^^^ eb u v) u).testBit v = true)))) ∧ same (fun k => ¬ gone k ∧ k ≠ 32 ∧ k ≠ 33) h h' ∧ gC h' n (N ^^^ eb u v) ∧ hC h' (pushH HL N) ∧ fresh h') := by
  have hn := ok.2.1
  have q1 : b01 (inR (nI u) n) = 1 := b01_t ⟨u, hu, rfl⟩
  have q2 : b01 (inR (nI v) n) = 1 := b01_t ⟨v, hv, rfl⟩
  have hlt : N ^^^ eb u v < 2 ^ 49 := xor_lt49 ok.2.2.1 (eb_lt (by omega) (by omega))
  have eb1 : ∀ x w, nI (x / 2 ^ w &&& 1) = nI (b01 (x.testBit w = true)) := by
    intro x w
    by_cases c : x.testBit w = true
    · rw [b01_t c, (tb_iff _ _).mpr c]
    · rw [b01_f c, (tb_0 _ _).mpr (by simpa using c)]
  refine ev_start 0 (lv := [some (.ref 0), some (.int (nI u)), some (.int (nI v))]) rfl (by decide) (Nat.le_of_ble_eq_true rfl) ?_
  refine ev_aload_n dX11_toggleEdge_0 rfl ?_
  refine ev_iload_n dX11_toggleEdge_1 rfl ?_
  refine ev_callV (cl_isVertexC g hn) ok_X11_isVertex ml_X11_89 rfl rfl rfl rfl (Nat.le_of_ble_eq_true rfl) dX11_toggleEdge_2 (kI ?_)
  rw [q1]
  refine ev_if_eqN 21 dX11_toggleEdge_5 (by decide) (by omega) (fun c5 => ?_) (fun c5 => ?_)
  · exact absurd c5 (by decide)
  · refine ev_aload_n dX11_toggleEdge_8 rfl ?_
    refine ev_iload_n dX11_toggleEdge_9 rfl ?_
    refine ev_callV (cl_isVertexC g hn) ok_X11_isVertex ml_X11_89 rfl rfl rfl rfl (Nat.le_of_ble_eq_true rfl) dX11_toggleEdge_10 (kI ?_)
    rw [q2]
    refine ev_if_eqN 21 dX11_toggleEdge_13 (by decide) (by omega) (fun c13 => ?_) (fun c13 => ?_)
    · exact absurd c13 (by decide)
    · refine ev_iload_n dX11_toggleEdge_16 rfl ?_
      refine ev_iload_n dX11_toggleEdge_17 rfl ?_
      refine ev_icmp_neN 23 dX11_toggleEdge_18 (by decide) (by omega) (by omega) (fun c18 => ?_) (fun c18 => ?_)
      · refine ev_aload_n dX11_toggleEdge_23 rfl ?_
        refine ev_aload_n dX11_toggleEdge_24 rfl ?_
        refine ev_getR fl_X11_14 rfl rfl dX11_toggleEdge_25 ?_
        refine ev_getLv (g.2) fl_X11_93 rfl rfl dX11_toggleEdge_28 ?_
        refine ev_iload_n dX11_toggleEdge_31 rfl ?_
        refine ev_iload_n dX11_toggleEdge_32 rfl ?_
        refine ev_callS (cl_edgeBits (by omega) (by omega)) ok_X1_edgeBits ml_X11_97 rfl rfl (Nat.le_of_ble_eq_true rfl) dX11_toggleEdge_33 (kL ?_)
        refine ev_lxorN dX11_toggleEdge_36 ?_
        refine ev_callV (cl_recordChange g hh hl) ok_X11_recordChange ml_X11_101 rfl rfl rfl rfl (Nat.le_of_ble_eq_true rfl) dX11_toggleEdge_37 ?_
        rintro rv h1 ⟨rfl, hs, g1, hh1, f1⟩
        refine ev_aload_n dX11_toggleEdge_40 rfl ?_
        refine ev_getR fl_X11_14 rfl rfl dX11_toggleEdge_41 ?_
        refine ev_getLv (g1.2) fl_X11_93 rfl rfl dX11_toggleEdge_44 ?_
        refine ev_iload_n dX11_toggleEdge_47 rfl ?_
        refine ev_callS (cl_neighborsIn hlt (by omega)) ok_X1_neighborsIn ml_X11_105 rfl rfl (Nat.le_of_ble_eq_true rfl) dX11_toggleEdge_48 (kI ?_)
        refine ev_iload_n dX11_toggleEdge_51 rfl ?_
        refine ev_ishrN dX11_toggleEdge_52 (by have := nb_lt (N ^^^ eb u v) u; omega) (by omega) ?_
        refine ev_iconst (nI 1) dX11_toggleEdge_53 rfl ?_
        refine ev_iandN dX11_toggleEdge_54 ?_
        rw [eb1]
        refine ev_iret dX11_toggleEdge_55 rfl ?_
        exact ⟨rfl, hs, g1, hh1, f1⟩
      · exact absurd c18 huv
theorem cl_toggleEdgeC_bad {n N : Nat} {x y : Int32} (g : gC h n N) (hn : n ≤ 7) (hx : ¬ (inR x n ∧ inR y n ∧ x ≠ y)) : Cl G (d + 1) M_X11_toggleEdge [.ref 0, .int x, .int y] h (qI (-1) h) := by
  have q1 := b01_lt (inR x n)
  have q2 := b01_lt (inR y n)
  refine ev_start 0 (lv := [some (.ref 0), some (.int x), some (.int y)]) rfl (by decide) (Nat.le_of_ble_eq_true rfl) ?_
  refine ev_aload_n dX11_toggleEdge_0 rfl ?_
  refine ev_iload_n dX11_toggleEdge_1 rfl ?_
  refine ev_callV (cl_isVertexC g hn) ok_X11_isVertex ml_X11_89 rfl rfl rfl rfl (Nat.le_of_ble_eq_true rfl) dX11_toggleEdge_2 (kI ?_)
  refine ev_if_eqN 21 dX11_toggleEdge_5 (by decide) (by omega) (fun c5 => ?_) (fun c5 => ?_)
  · refine ev_iconst (-1) dX11_toggleEdge_21 rfl ?_
    refine ev_iret dX11_toggleEdge_22 rfl ?_
    exact ⟨by with_reducible rfl, rfl⟩
  · refine ev_aload_n dX11_toggleEdge_8 rfl ?_
    refine ev_iload_n dX11_toggleEdge_9 rfl ?_
    refine ev_callV (cl_isVertexC g hn) ok_X11_isVertex ml_X11_89 rfl rfl rfl rfl (Nat.le_of_ble_eq_true rfl) dX11_toggleEdge_10 (kI ?_)
    refine ev_if_eqN 21 dX11_toggleEdge_13 (by decide) (by omega) (fun c13 => ?_) (fun c13 => ?_)
    · refine ev_iconst (-1) dX11_toggleEdge_21 rfl ?_
      refine ev_iret dX11_toggleEdge_22 rfl ?_
      exact ⟨by with_reducible rfl, rfl⟩
    · refine ev_iload_n dX11_toggleEdge_16 rfl ?_
      refine ev_iload_n dX11_toggleEdge_17 rfl ?_
      refine ev_icmp_ne 23 dX11_toggleEdge_18 (by decide) (fun c18 => ?_) (fun c18 => ?_)
      · exact absurd ⟨b01_1.mp (by omega), b01_1.mp (by omega), c18⟩ hx
      · refine ev_iconst (-1) dX11_toggleEdge_21 rfl ?_
        refine ev_iret dX11_toggleEdge_22 rfl ?_
        exact ⟨by with_reducible rfl, rfl⟩
end CHANGE

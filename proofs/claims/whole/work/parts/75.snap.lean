section SNAP
variable {G : MG} {d : Nat} {h : MH}
abbrev Sn := Nat × Nat × List Tst × List Nat
def snC (h : MH) : Option Sn → Prop
  | none => h.1 64 0 = nI 0
  | some p => h.1 64 0 = nI 1 ∧ h.1 64 1 = nI p.1 ∧ h.2 64 2 = lN p.2.1 ∧ h.1 64 3 = nI p.2.2.1.length ∧ rowIs h 65 p.2.2.2
def snM (h : MH) : Option Sn → Prop
  | none => h.1 67 30 = nI 0
  | some p => h.1 67 30 = nI 1 ∧ h.1 90 0 = nI p.1 ∧ h.1 90 1 = nI p.2.2.1.length ∧ h.1 90 2 = nI p.2.2.2.length ∧ (∀ v, v < 7 → h.1 90 (3 + v) = nI (nb p.2.1 v)) ∧ (∀ t, t < p.2.2.1.length → h.1 90 (10 + 3 * t) = nI (tg p.2.2.1 t).1 ∧ h.1 90 (10 + (3 * t + 1)) = nI (tg p.2.2.1 t).2.1 ∧ h.1 90 (10 + (3 * t + 2)) = nI (if (tg p.2.2.1 t).1 = 7 then 0 else (tg p.2.2.1 t).2.2)) ∧ (∀ i, i < p.2.2.2.length → h.1 90 (34 + i) = nI (p.2.2.2.getD i 0))
/-- the snapshot's graph and list are good, and its tests are the first ones of T -/
def okN (T : List Tst) : Option Sn → Prop
  | none => True
  | some p => gOK p.1 p.2.1 ∧ okL p.2.2.2 ∧ ∃ R, T = p.2.2.1 ++ R
theorem okN_app {T R : List Tst} {P : Option Sn} (o : okN T P) : okN (T ++ R) P := by
  cases P with
  | none => trivial
  | some p =>
    obtain ⟨o1, o2, R1, e⟩ := o
    exact ⟨o1, o2, R1 ++ R, by rw [e, List.append_assoc]⟩
theorem okN_add {T : List Tst} {Q : Prop} {x : Tst} {P : Option Sn} (o : okN T P) : okN (addL T Q x) P := by
  unfold addL
  by_cases c : b01 Q = 0
  · rw [if_pos c]; exact o
  · rw [if_neg c]
    by_cases e : T.length = 8
    · rw [if_pos e]; exact o
    · rw [if_neg e]; exact okN_app o
theorem tg_app {T R : List Tst} {t : Nat} (ht : t < T.length) : tg (T ++ R) t = tg T t := by
  unfold tg; rw [List.getD_eq_getElem?_getD, List.getElem?_append_left ht, ← List.getD_eq_getElem?_getD]
theorem okT_app {T R : List Tst} (o : okT (T ++ R)) : okT T := by
  have l := o.1
  rw [List.length_append] at l
  refine ⟨by omega, fun t ht => ?_⟩
  have := o.2 t (by rw [List.length_append]; omega)
  rw [tg_app ht] at this
  exact this
theorem clo_app {T R : List Tst} {t p : Nat} (ht : t < T.length) (q : clo (T ++ R) t p) : clo T t p := ⟨q.1, q.2.1, fun u hu => by
  have := q.2.2 u hu
  rw [tg_app (by omega)] at this
  exact this⟩
theorem cl_takeSnapshotC {n N : Nat} {T : List Tst} {L : List Nat} (g : gC h n N) (t : tC h T) (r : rowIs h 40 L) (l : okL L) : Cl G (d + 2) M_X11_takeSnapshot [.ref 0] h (fun rv h' => rv = some (.int (nI n)) ∧ same (fun k => k < 64 ∨ 66 < k) h h' ∧ snC h' (some (n, N, T, L))) := by
  have l24 := l.1
  generalize hh1 : m_put (m_putL (m_put (m_put h 64 0 (nI 1)) 64 1 (nI n)) 64 2 (lN N)) 64 3 (nI T.length) = h1
  have s1 : same (fun k => k < 64 ∨ 66 < k) h h1 := by
    rw [← hh1]
    exact (((same_put (by decide)).tr (same_put (by decide))).tr (same_putL (by decide))).tr (same_put (by decide))
  have r1 : rowIs h1 40 L := rowIs_same r s1 (by decide) (by decide)
  have f0 : h1.1 64 0 = nI 1 := by rw [← hh1, mp_j (by decide), ml_1]; rw [mp_j (by decide)]; exact mp_eq _ _ _ _
  have f1 : h1.1 64 1 = nI n := by rw [← hh1, mp_j (by decide), ml_1]; exact mp_eq _ _ _ _
  have f2 : h1.2 64 2 = lN N := by
    rw [← hh1]
    show (m_putL (m_put (m_put h 64 0 (nI 1)) 64 1 (nI n)) 64 2 (lN N)).2 64 2 = lN N
    exact ml_eq _ _ _ _
  have f3 : h1.1 64 3 = nI T.length := by rw [← hh1]; exact mp_eq _ _ _ _
  have rc := rowIs_copy (p := 65) r1
  have s2 : same (fun k => k ≠ 65 ∧ k ≠ 66) h1 (rowCopy h1 65 40 L.length) := same_copy (by decide) (by decide)
  refine ev_start 0 (lv := [some (.ref 0)]) rfl (by decide) (Nat.le_of_ble_eq_true rfl) ?_
  refine ev_aload_n dX11_takeSnapshot_0 rfl ?_
  refine ev_getR fl_X11_74 rfl rfl dX11_takeSnapshot_1 ?_
  refine ev_iconst (nI 1) dX11_takeSnapshot_4 rfl ?_
  refine ev_putI fp_X11_322 rfl rfl rfl rfl dX11_takeSnapshot_5 ?_
  refine ev_aload_n dX11_takeSnapshot_8 rfl ?_
  refine ev_getR fl_X11_74 rfl rfl dX11_takeSnapshot_9 ?_
  refine ev_aload_n dX11_takeSnapshot_12 rfl ?_
  refine ev_getR fl_X11_14 rfl rfl dX11_takeSnapshot_13 ?_
  refine ev_getIv ((show _ = nI n by rw [mp_k (by decide)]; exact g.1)) fl_X11_78 rfl rfl dX11_takeSnapshot_16 ?_
  refine ev_putI fp_X11_326 rfl rfl rfl rfl dX11_takeSnapshot_19 ?_
  refine ev_aload_n dX11_takeSnapshot_22 rfl ?_
  refine ev_getR fl_X11_74 rfl rfl dX11_takeSnapshot_23 ?_
  refine ev_aload_n dX11_takeSnapshot_26 rfl ?_
  refine ev_getR fl_X11_14 rfl rfl dX11_takeSnapshot_27 ?_
  refine ev_getLv ((show _ = lN N from g.2)) fl_X11_93 rfl rfl dX11_takeSnapshot_30 ?_
  refine ev_putL fp_X11_327 rfl rfl dX11_takeSnapshot_33 ?_
  refine ev_aload_n dX11_takeSnapshot_36 rfl ?_
  refine ev_getR fl_X11_74 rfl rfl dX11_takeSnapshot_37 ?_
  refine ev_aload_n dX11_takeSnapshot_40 rfl ?_
  refine ev_getR fl_X11_46 rfl rfl dX11_takeSnapshot_41 ?_
  refine ev_getIv ((show _ = nI T.length by rw [ml_1, mp_k (by decide), mp_k (by decide)]; exact t.1)) fl_X11_248 rfl rfl dX11_takeSnapshot_44 ?_
  refine ev_putI fp_X11_328 rfl rfl rfl rfl dX11_takeSnapshot_47 ?_
  rw [hh1]
  refine ev_aload_n dX11_takeSnapshot_50 rfl ?_
  refine ev_getR fl_X11_74 rfl rfl dX11_takeSnapshot_51 ?_
  refine ev_getR fl_X11_331 rfl rfl dX11_takeSnapshot_54 ?_
  refine ev_aload_n dX11_takeSnapshot_57 rfl ?_
  refine ev_getR fl_X11_53 rfl rfl dX11_takeSnapshot_58 ?_
  refine ev_getR fl_X11_253 rfl rfl dX11_takeSnapshot_61 ?_
  refine ev_callV (cl_copyFrom row_65 row_40 (by decide) (by decide) r1.1 (by omega) (by omega)) ok_X7_copyFrom ml_X11_293 rfl rfl rfl rfl (Nat.le_of_ble_eq_true rfl) dX11_takeSnapshot_64 (kV ?_)
  refine ev_aload_n dX11_takeSnapshot_67 rfl ?_
  refine ev_getR fl_X11_14 rfl rfl dX11_takeSnapshot_68 ?_
  refine ev_getIv ((show _ = nI n by rw [(s2 1 (by decide)).1, (s1 1 (by decide)).1]; exact g.1)) fl_X11_78 rfl rfl dX11_takeSnapshot_71 ?_
  refine ev_iret dX11_takeSnapshot_74 rfl ?_
  refine ⟨rfl, s1.tr (s2.mono (fun k hk => by omega)), ?_, ?_, ?_, ?_, rc⟩
  · rw [(s2 64 (by decide)).1]; exact f0
  · rw [(s2 64 (by decide)).1]; exact f1
  · rw [(s2 64 (by decide)).2]; exact f2
  · rw [(s2 64 (by decide)).1]; exact f3
theorem cl_restoreSnapshotC_no (s : snC h none) : Cl G d M_X11_restoreSnapshot [.ref 0] h (qI (-5) h) := by
  have s0 : h.1 64 0 = nI 0 := s
  refine ev_start 0 (lv := [some (.ref 0)]) rfl (by decide) (Nat.le_of_ble_eq_true rfl) ?_
  refine ev_aload_n dX11_restoreSnapshot_0 rfl ?_
  refine ev_getR fl_X11_74 rfl rfl dX11_restoreSnapshot_1 ?_
  refine ev_getIv (s0) fl_X11_322 rfl rfl dX11_restoreSnapshot_4 ?_
  refine ev_if_neN 13 dX11_restoreSnapshot_7 (by decide) (by omega) (fun c7 => ?_) (fun c7 => ?_)
  · exact absurd rfl c7
  · refine ev_bipush (-5) dX11_restoreSnapshot_10 rfl ?_
    refine ev_iret dX11_restoreSnapshot_12 rfl ?_
    exact ⟨by with_reducible rfl, rfl⟩
theorem cl_restoreSnapshotC {T : List Tst} {p : Sn} (s : snC h (some p)) (o : okN T (some p)) (t : tC h T) : Cl G (d + 2) M_X11_restoreSnapshot [.ref 0] h (fun rv h' => rv = some (.int (nI p.1)) ∧ same (fun k => ¬ gone k ∧ k ≠ 32 ∧ k ≠ 34 ∧ k ≠ 40 ∧ k ≠ 41) h h' ∧ gC h' p.1 p.2.1 ∧ fresh h' ∧ tC h' p.2.2.1 ∧ rowIs h' 40 p.2.2.2 ∧ hC h' []) := by
  obtain ⟨n, N, T0, L0⟩ := p
  obtain ⟨s0, s1, s2, s3, s4⟩ := s
  obtain ⟨o1, o2, R, rfl⟩ := o
  simp only at s0 s1 s2 s3 s4 o1 o2 ⊢
  have l24 := o2.1
  have ng : ∀ k, 26 < k → ¬ gone k := fun k hk z => by simp only [gone] at z; omega
  refine ev_start 0 (lv := [some (.ref 0)]) rfl (by decide) (Nat.le_of_ble_eq_true rfl) ?_
  refine ev_aload_n dX11_restoreSnapshot_0 rfl ?_
  refine ev_getR fl_X11_74 rfl rfl dX11_restoreSnapshot_1 ?_
  refine ev_getIv (s0) fl_X11_322 rfl rfl dX11_restoreSnapshot_4 ?_
  refine ev_if_neN 13 dX11_restoreSnapshot_7 (by decide) (by omega) (fun c7 => ?_) (fun c7 => ?_)
  · refine ev_aload_n dX11_restoreSnapshot_13 rfl ?_
    refine ev_aload_n dX11_restoreSnapshot_14 rfl ?_
    refine ev_getR fl_X11_74 rfl rfl dX11_restoreSnapshot_15 ?_
    refine ev_getIv (s1) fl_X11_326 rfl rfl dX11_restoreSnapshot_18 ?_
    refine ev_aload_n dX11_restoreSnapshot_21 rfl ?_
    refine ev_getR fl_X11_74 rfl rfl dX11_restoreSnapshot_22 ?_
    refine ev_getLv (s2) fl_X11_327 rfl rfl dX11_restoreSnapshot_25 ?_
    refine ev_callV (cl_replaceGraph (n := n) (N := N)) ok_X11_replaceGraph ml_X11_82 rfl rfl rfl rfl (Nat.le_of_ble_eq_true rfl) dX11_restoreSnapshot_28 ?_
    rintro rv h1 ⟨rfl, m1, g1, f1⟩
    have z3 : h1.1 64 3 = nI T0.length := by rw [(m1 64 (ng _ (by decide))).1]; exact s3
    have r65 : rowIs h1 65 L0 := rowIs_same s4 m1 (ng _ (by decide)) (ng _ (by decide))
    have sA : same (fun k => k ≠ 34) h1 (m_put h1 34 4 (nI T0.length)) := same_put (by simp)
    have r65b := rowIs_same r65 sA (by decide) (by decide)
    refine ev_aload_n dX11_restoreSnapshot_31 rfl ?_
    refine ev_getR fl_X11_46 rfl rfl dX11_restoreSnapshot_32 ?_
    refine ev_aload_n dX11_restoreSnapshot_35 rfl ?_
    refine ev_getR fl_X11_74 rfl rfl dX11_restoreSnapshot_36 ?_
    refine ev_getIv (z3) fl_X11_328 rfl rfl dX11_restoreSnapshot_39 ?_
    refine ev_putI fp_X11_248 rfl rfl rfl rfl dX11_restoreSnapshot_42 ?_
    refine ev_aload_n dX11_restoreSnapshot_45 rfl ?_
    refine ev_getR fl_X11_53 rfl rfl dX11_restoreSnapshot_46 ?_
    refine ev_getR fl_X11_253 rfl rfl dX11_restoreSnapshot_49 ?_
    refine ev_aload_n dX11_restoreSnapshot_52 rfl ?_
    refine ev_getR fl_X11_74 rfl rfl dX11_restoreSnapshot_53 ?_
    refine ev_getR fl_X11_331 rfl rfl dX11_restoreSnapshot_56 ?_
    refine ev_callV (cl_copyFrom row_40 row_65 (by decide) (by decide) r65b.1 (by omega) (by omega)) ok_X7_copyFrom ml_X11_293 rfl rfl rfl rfl (Nat.le_of_ble_eq_true rfl) dX11_restoreSnapshot_59 (kV ?_)
    refine ev_aload_n dX11_restoreSnapshot_62 rfl ?_
    refine ev_getR fl_X11_39 rfl rfl dX11_restoreSnapshot_63 ?_
    refine ev_iconst (nI 0) dX11_restoreSnapshot_66 rfl ?_
    refine ev_putI fp_X11_86 rfl rfl rfl rfl dX11_restoreSnapshot_67 ?_
    refine ev_aload_n dX11_restoreSnapshot_70 rfl ?_
    refine ev_getR fl_X11_14 rfl rfl dX11_restoreSnapshot_71 ?_
    refine ev_getIv ((show _ = nI n by rw [mp_k (by decide), (same_copy (P := fun k => k = 1) (by decide) (by decide) 1 rfl).1, mp_k (by decide)]; exact g1.1)) fl_X11_78 rfl rfl dX11_restoreSnapshot_74 ?_
    refine ev_iret dX11_restoreSnapshot_77 rfl ?_
    have sB : same (fun k => k ≠ 40 ∧ k ≠ 41) (m_put h1 34 4 (nI T0.length)) (rowCopy (m_put h1 34 4 (nI T0.length)) 40 65 L0.length) := same_copy (by decide) (by decide)
    have sC : same (fun k => k ≠ 32) (rowCopy (m_put h1 34 4 (nI T0.length)) 40 65 L0.length) (m_put (rowCopy (m_put h1 34 4 (nI T0.length)) 40 65 L0.length) 32 1 (nI 0)) := same_put (by simp)
    have sD : same (fun k => k ≠ 32 ∧ k ≠ 34 ∧ k ≠ 40 ∧ k ≠ 41) h1 (m_put (rowCopy (m_put h1 34 4 (nI T0.length)) 40 65 L0.length) 32 1 (nI 0)) := ((sA.mono (fun k hk => hk.2.1)).tr (sB.mono (fun k hk => hk.2.2))).tr (sC.mono (fun k hk => hk.1))
    refine ⟨rfl, (m1.mono (fun k hk => hk.1)).tr (sD.mono (fun k hk => hk.2)), ⟨by rw [(sD 1 (by decide)).1]; exact g1.1, by rw [(sD 1 (by decide)).2]; exact g1.2⟩, ?_, ⟨?_, fun u hu => ?_⟩, ?_, mp_eq _ _ _ _, fun i hi => absurd hi (Nat.not_lt_zero _)⟩
    · obtain ⟨a1, a2, a3, a4⟩ := f1
      exact ⟨by rw [(sD 4 (by decide)).1]; exact a1, by rw [(sD 4 (by decide)).1]; exact a2, fun k hk => ⟨by rw [(sD 11 (by decide)).1]; exact (a3 k hk).1, by rw [(sD 13 (by decide)).1]; exact (a3 k hk).2⟩, by rw [(sD 26 (by decide)).1]; exact a4⟩
    · rw [(sC 34 (by decide)).1, (sB 34 (by decide)).1]; exact mp_eq _ _ _ _
    · obtain ⟨w1, w2, w3, q, w4, w5⟩ := t.2 u (by rw [List.length_append]; exact Nat.lt_of_lt_of_le hu (Nat.le_add_right _ _))
      rw [tg_app hu] at w1 w2 w3
      rw [(sD 35 (by decide)).1, (sD 36 (by decide)).1, (sD 37 (by decide)).1, (sD 38 (by decide)).1, (m1 35 (ng _ (by decide))).1, (m1 36 (ng _ (by decide))).1, (m1 37 (ng _ (by decide))).1, (m1 38 (ng _ (by decide))).1]
      exact ⟨w1, w2, w3, q, w4, clo_app hu w5⟩
    · exact rowIs_same (rowIs_copy r65b) sC (by decide) (by decide)
  · exact absurd c7 (by decide)
/-! the reference's -/
theorem cl_copy {a b na nb s t c : Nat} (ha : m_lay[a]? = some (.inl (0, na, []))) (hb : m_lay[b]? = some (.inl (0, nb, []))) (hab : a ≠ b) (h1 : s + c ≤ na) (h2 : t + c ≤ nb) (h3 : na < 10000) (h4 : nb < 10000) : Cl G d M_X12_copy [.ref a, .int (nI s), .ref b, .int (nI t), .int (nI c)] h (fun rv h' => rv = none ∧ ∃ f, h' = m_putA h b f ∧ (∀ i, i < c → f (t + i) = h.1 a (s + i)) ∧ ∀ i, i < t ∨ t + c ≤ i → f i = h.1 b i) := by
  have loop : ∀ (k i : Nat) (f : Nat → Int32), i + k = c → (∀ j, j < i → f (t + j) = h.1 a (s + j)) → (∀ j, j < t ∨ t + c ≤ j → f j = h.1 b j) → Ev G d M_X12_copy 3 [some (.ref a), some (.int (nI s)), some (.ref b), some (.int (nI t)), some (.int (nI c)), some (.int (nI i))] [] (m_putA h b f) (fun rv h' => rv = none ∧ ∃ f, h' = m_putA h b f ∧ (∀ i, i < c → f (t + i) = h.1 a (s + i)) ∧ ∀ i, i < t ∨ t + c ≤ i → f i = h.1 b i) := by
    intro k
    induction k with
    | zero =>
      intro i f hi g1 g2
      obtain rfl : i = c := by omega
      refine ev_iload dX12_copy_3 rfl ?_
      refine ev_iload dX12_copy_5 rfl ?_
      refine ev_icmp_geN 28 dX12_copy_7 (by decide) (by omega) (by omega) (fun c7 => ?_) (fun c7 => ?_)
      · refine ev_ret dX12_copy_28 rfl ?_
        exact ⟨rfl, f, rfl, g1, g2⟩
      · omega
    | succ k ih =>
      intro i f hi g1 g2
      have ev : (m_putA h b f).1 a (s + i) = h.1 a (s + i) := by rw [ma_k hab]
      refine ev_iload dX12_copy_3 rfl ?_
      refine ev_iload dX12_copy_5 rfl ?_
      refine ev_icmp_geN 28 dX12_copy_7 (by decide) (by omega) (by omega) (fun c7 => ?_) (fun c7 => ?_)
      · omega
      · refine ev_aload_n dX12_copy_10 rfl ?_
        refine ev_iload_n dX12_copy_11 rfl ?_
        refine ev_iload dX12_copy_12 rfl ?_
        refine ev_iaddN dX12_copy_14 ?_
        refine ev_aload_n dX12_copy_15 rfl ?_
        refine ev_iload_n dX12_copy_16 rfl ?_
        refine ev_iload dX12_copy_17 rfl ?_
        refine ev_iaddN dX12_copy_19 ?_
        refine ev_ialdN ha dX12_copy_20 (by omega) (by omega) ?_
        refine ev_iastN hb dX12_copy_21 (by omega) (by omega) ?_
        rw [ma_set, ev]
        refine ev_inc5N dX12_copy_22 (by decide) rfl ?_
        refine ev_goto 3 dX12_copy_25 (by decide) ?_
        exact ih (i + 1) _ (by omega) (fun j hj => by
        by_cases e : j = i
        · subst e; rw [pk_us]
        · rw [pk_un (by omega)]; exact g1 j (by omega)) (fun j hj => by rw [pk_un (by omega)]; exact g2 j hj)
  refine ev_start 1 (lv := [some (.ref a), some (.int (nI s)), some (.ref b), some (.int (nI t)), some (.int (nI c)), none]) rfl (by decide) (Nat.le_of_ble_eq_true rfl) ?_
  refine ev_iconst (nI 0) dX12_copy_0 rfl ?_
  refine ev_ist5 dX12_copy_1 (by decide) rfl ?_
  have q := loop c 0 (h.1 b) (by omega) (fun j hj => absurd hj (Nat.not_lt_zero _)) (fun j _ => rfl)
  rw [ma_self] at q
  exact q
theorem cl_takeSnapshotM {n N : Nat} {T : List Tst} {L : List Nat} (g : gM h n N) (t : tR h T) (o : okT T) (r : lM h L) (l : okL L) : Cl G (d + 1) M_X12_takeSnapshot [.ref 67] h (fun rv h' => rv = some (.int (nI n)) ∧ mod (fun k => k ≠ 90) (fun j => j ≠ 30) h h' ∧ snM h' (some (n, N, T, L))) := by
  have l24 := l.1
  have t8 := o.1
  generalize hh1 : m_put (m_put (m_put (m_put h 67 30 (nI 1)) 90 0 (nI n)) 90 1 (nI T.length)) 90 2 (nI L.length) = h1
  have m1 : mod (fun k => k ≠ 90) (fun j => j ≠ 30) h h1 := by
    rw [← hh1]
    exact (((mod_f (by simp)).tr (mod_p (by simp) (by decide))).tr (mod_p (by simp) (by decide))).tr (mod_p (by simp) (by decide))
  have a0 : h1.1 90 0 = nI n := by rw [← hh1, mp_j (by decide), mp_j (by decide)]; exact mp_eq _ _ _ _
  have a1 : h1.1 90 1 = nI T.length := by rw [← hh1, mp_j (by decide)]; exact mp_eq _ _ _ _
  have a2 : h1.1 90 2 = nI L.length := by rw [← hh1]; exact mp_eq _ _ _ _
  have a3 : h1.1 67 30 = nI 1 := by rw [← hh1, mp_k (by decide), mp_k (by decide), mp_k (by decide)]; exact mp_eq _ _ _ _
  refine ev_start 0 (lv := [some (.ref 67)]) rfl (by decide) (Nat.le_of_ble_eq_true rfl) ?_
  refine ev_aload_n dX12_takeSnapshot_0 rfl ?_
  refine ev_iconst (nI 1) dX12_takeSnapshot_1 rfl ?_
  refine ev_putI fp_X12_308 rfl rfl rfl rfl dX12_takeSnapshot_2 ?_
  refine ev_aload_n dX12_takeSnapshot_5 rfl ?_
  refine ev_getR fl_X12_76 rfl rfl dX12_takeSnapshot_6 ?_
  refine ev_iconst (nI 0) dX12_takeSnapshot_9 rfl ?_
  refine ev_aload_n dX12_takeSnapshot_10 rfl ?_
  refine ev_getIv ((show _ = nI n by rw [mp_j (by decide)]; exact g.1)) fl_X12_9 rfl rfl dX12_takeSnapshot_11 ?_
  refine ev_iastN rfl dX12_takeSnapshot_14 (by omega) (by omega) ?_
  refine ev_aload_n dX12_takeSnapshot_15 rfl ?_
  refine ev_getR fl_X12_76 rfl rfl dX12_takeSnapshot_16 ?_
  refine ev_iconst (nI 1) dX12_takeSnapshot_19 rfl ?_
  refine ev_aload_n dX12_takeSnapshot_20 rfl ?_
  refine ev_getIv ((show _ = nI T.length by rw [mp_k (by decide), mp_j (by decide)]; exact t.1)) fl_X12_236 rfl rfl dX12_takeSnapshot_21 ?_
  refine ev_iastN rfl dX12_takeSnapshot_24 (by omega) (by omega) ?_
  refine ev_aload_n dX12_takeSnapshot_25 rfl ?_
  refine ev_getR fl_X12_76 rfl rfl dX12_takeSnapshot_26 ?_
  refine ev_iconst (nI 2) dX12_takeSnapshot_29 rfl ?_
  refine ev_aload_n dX12_takeSnapshot_30 rfl ?_
  refine ev_getIv ((show _ = nI L.length by rw [mp_k (by decide), mp_k (by decide), mp_j (by decide)]; exact r.1)) fl_X12_251 rfl rfl dX12_takeSnapshot_31 ?_
  refine ev_iastN rfl dX12_takeSnapshot_34 (by omega) (by omega) ?_
  rw [hh1]
  refine ev_aload_n dX12_takeSnapshot_35 rfl ?_
  refine ev_getR fl_X12_15 rfl rfl dX12_takeSnapshot_36 ?_
  refine ev_iconst (nI 0) dX12_takeSnapshot_39 rfl ?_
  refine ev_aload_n dX12_takeSnapshot_40 rfl ?_
  refine ev_getR fl_X12_76 rfl rfl dX12_takeSnapshot_41 ?_
  refine ev_iconst (nI 3) dX12_takeSnapshot_44 rfl ?_
  refine ev_bipush (nI 7) dX12_takeSnapshot_45 rfl ?_
  refine ev_callS (cl_copy (na := 7) (nb := 58) rfl rfl (by decide) (by decide) (by decide) (by decide) (by decide)) ok_X12_copy ml_X12_311 rfl rfl (Nat.le_of_ble_eq_true rfl) dX12_takeSnapshot_47 ?_
  rintro rv h2 ⟨rfl, f1, rfl, b1, b2⟩
  refine ev_aload_n dX12_takeSnapshot_50 rfl ?_
  refine ev_getR fl_X12_47 rfl rfl dX12_takeSnapshot_51 ?_
  refine ev_iconst (nI 0) dX12_takeSnapshot_54 rfl ?_
  refine ev_aload_n dX12_takeSnapshot_55 rfl ?_
  refine ev_getR fl_X12_76 rfl rfl dX12_takeSnapshot_56 ?_
  refine ev_bipush (nI 10) dX12_takeSnapshot_59 rfl ?_
  refine ev_bipush (nI 24) dX12_takeSnapshot_61 rfl ?_
  refine ev_callS (cl_copy (na := 24) (nb := 58) rfl rfl (by decide) (by decide) (by decide) (by decide) (by decide)) ok_X12_copy ml_X12_311 rfl rfl (Nat.le_of_ble_eq_true rfl) dX12_takeSnapshot_63 ?_
  rintro rv h2 ⟨rfl, f2, rfl, c1, c2⟩
  refine ev_aload_n dX12_takeSnapshot_66 rfl ?_
  refine ev_getR fl_X12_50 rfl rfl dX12_takeSnapshot_67 ?_
  refine ev_iconst (nI 0) dX12_takeSnapshot_70 rfl ?_
  refine ev_aload_n dX12_takeSnapshot_71 rfl ?_
  refine ev_getR fl_X12_76 rfl rfl dX12_takeSnapshot_72 ?_
  refine ev_bipush (nI 34) dX12_takeSnapshot_75 rfl ?_
  refine ev_bipush (nI 24) dX12_takeSnapshot_77 rfl ?_
  refine ev_callS (cl_copy (na := 24) (nb := 58) rfl rfl (by decide) (by decide) (by decide) (by decide) (by decide)) ok_X12_copy ml_X12_311 rfl rfl (Nat.le_of_ble_eq_true rfl) dX12_takeSnapshot_79 ?_
  rintro rv h2 ⟨rfl, f3, rfl, d1, d2⟩
  simp only [ma_eq] at c2 d2
  have c1' : ∀ i, i < 24 → f2 (10 + i) = h.1 77 i := fun i hi => by
    have := c1 i hi
    rw [ma_k (by decide), Nat.zero_add, (m1.1 77 (by decide) (by decide)).1] at this
    exact this
  have b1' : ∀ i, i < 7 → f1 (3 + i) = h.1 68 i := fun i hi => by
    have := b1 i hi
    rw [Nat.zero_add, (m1.1 68 (by decide) (by decide)).1] at this
    exact this
  have d1' : ∀ i, i < 24 → f3 (34 + i) = h.1 78 i := fun i hi => by
    have := d1 i hi
    rw [ma_k (by decide), ma_k (by decide), Nat.zero_add, (m1.1 78 (by decide) (by decide)).1] at this
    exact this
  refine ev_aload_n dX12_takeSnapshot_82 rfl ?_
  refine ev_getIv ((show _ = nI n by rw [ma_k (by decide), ma_k (by decide), ma_k (by decide), m1.2 0 (by decide)]; exact g.1)) fl_X12_9 rfl rfl dX12_takeSnapshot_83 ?_
  refine ev_iret dX12_takeSnapshot_86 rfl ?_
  refine ⟨rfl, ((m1.tr (mod_a (by simp) (by decide))).tr (mod_a (by simp) (by decide))).tr (mod_a (by simp) (by decide)), ?_, ?_, ?_, ?_, fun v hv => ?_, fun u hu => ?_, fun i hi => ?_⟩
  · rw [ma_k (by decide), ma_k (by decide), ma_k (by decide)]; exact a3
  · rw [ma_eq, d2 0 (by omega), c2 0 (by omega), b2 0 (by omega)]; exact a0
  · rw [ma_eq, d2 1 (by omega), c2 1 (by omega), b2 1 (by omega)]; exact a1
  · rw [ma_eq, d2 2 (by omega), c2 2 (by omega), b2 2 (by omega)]; exact a2
  · rw [ma_eq, d2 (3 + v) (by omega), c2 (3 + v) (by omega), b1' v hv]; exact g.2 v hv
  · have hu' : u < T.length := hu
    rw [ma_eq, d2 (10 + 3 * u) (by omega), d2 (10 + (3 * u + 1)) (by omega), d2 (10 + (3 * u + 2)) (by omega), c1' (3 * u) (by omega), c1' (3 * u + 1) (by omega), c1' (3 * u + 2) (by omega)]
    exact t.2 u hu
  · have hi' : i < L.length := hi
    rw [ma_eq, d1' i (by omega)]; exact r.2 i hi
theorem cl_restoreSnapshotM_no (s : snM h none) : Cl G d M_X12_restoreSnapshot [.ref 67] h (qI (-5) h) := by
  have s0 : h.1 67 30 = nI 0 := s
  refine ev_start 0 (lv := [some (.ref 67)]) rfl (by decide) (Nat.le_of_ble_eq_true rfl) ?_
  refine ev_aload_n dX12_restoreSnapshot_0 rfl ?_
  refine ev_getIv (s0) fl_X12_308 rfl rfl dX12_restoreSnapshot_1 ?_
  refine ev_if_neN 10 dX12_restoreSnapshot_4 (by decide) (by omega) (fun c4 => ?_) (fun c4 => ?_)
  · exact absurd rfl c4
  · refine ev_bipush (-5) dX12_restoreSnapshot_7 rfl ?_
    refine ev_iret dX12_restoreSnapshot_9 rfl ?_
    exact ⟨by with_reducible rfl, rfl⟩
theorem cl_restoreSnapshotM {T : List Tst} {p : Sn} (s : snM h (some p)) (o : okN T (some p)) (oT : okT T) : Cl G (d + 1) M_X12_restoreSnapshot [.ref 67] h (fun rv h' => rv = some (.int (nI p.1)) ∧ mod (fun k => k ≠ 68 ∧ k ≠ 77 ∧ k ≠ 78) (fun j => j ≠ 0 ∧ j ≠ 3 ∧ j ≠ 5 ∧ j ≠ 16 ∧ j ≠ 18) h h' ∧ gM h' p.1 p.2.1 ∧ h'.1 67 5 = nI 1 ∧ tR h' p.2.2.1 ∧ lM h' p.2.2.2 ∧ hM h' []) := by
  obtain ⟨n, N, T0, L0⟩ := p
  obtain ⟨s0, s1, s2, s3, s4, s5, s6⟩ := s
  obtain ⟨o1, o2, R, rfl⟩ := o
  simp only at s0 s1 s2 s3 s4 s5 s6 o1 o2 ⊢
  have l24 := o2.1
  have t8 : T0.length ≤ 8 := (okT_app oT).1
  generalize hh1 : m_put (m_put (m_put h 67 0 (nI n)) 67 16 (nI T0.length)) 67 18 (nI L0.length) = h1
  have m1 : mod (fun _ => True) (fun j => j ≠ 0 ∧ j ≠ 16 ∧ j ≠ 18) h h1 := by
    rw [← hh1]
    exact ((mod_f (by simp)).tr (mod_f (by simp))).tr (mod_f (by simp))
  have a0 : h1.1 67 0 = nI n := by rw [← hh1, mp_j (by decide), mp_j (by decide)]; exact mp_eq _ _ _ _
  have a1 : h1.1 67 16 = nI T0.length := by rw [← hh1, mp_j (by decide)]; exact mp_eq _ _ _ _
  have a2 : h1.1 67 18 = nI L0.length := by rw [← hh1]; exact mp_eq _ _ _ _
  have a90 : h1.1 90 = h.1 90 := (m1.1 90 (by decide) trivial).1
  refine ev_start 0 (lv := [some (.ref 67)]) rfl (by decide) (Nat.le_of_ble_eq_true rfl) ?_
  refine ev_aload_n dX12_restoreSnapshot_0 rfl ?_
  refine ev_getIv (s0) fl_X12_308 rfl rfl dX12_restoreSnapshot_1 ?_
  refine ev_if_neN 10 dX12_restoreSnapshot_4 (by decide) (by omega) (fun c4 => ?_) (fun c4 => ?_)
  · refine ev_aload_n dX12_restoreSnapshot_10 rfl ?_
    refine ev_aload_n dX12_restoreSnapshot_11 rfl ?_
    refine ev_getR fl_X12_76 rfl rfl dX12_restoreSnapshot_12 ?_
    refine ev_iconst (nI 0) dX12_restoreSnapshot_15 rfl ?_
    refine ev_ialdv (s1) rfl dX12_restoreSnapshot_16 (by omega) (by omega) ?_
    refine ev_putI fp_X12_9 rfl rfl rfl rfl dX12_restoreSnapshot_17 ?_
    refine ev_aload_n dX12_restoreSnapshot_20 rfl ?_
    refine ev_aload_n dX12_restoreSnapshot_21 rfl ?_
    refine ev_getR fl_X12_76 rfl rfl dX12_restoreSnapshot_22 ?_
    refine ev_iconst (nI 1) dX12_restoreSnapshot_25 rfl ?_
    refine ev_ialdv ((show _ = nI T0.length by rw [mp_k (by decide)]; exact s2)) rfl dX12_restoreSnapshot_26 (by omega) (by omega) ?_
    refine ev_putI fp_X12_236 rfl rfl rfl rfl dX12_restoreSnapshot_27 ?_
    refine ev_aload_n dX12_restoreSnapshot_30 rfl ?_
    refine ev_aload_n dX12_restoreSnapshot_31 rfl ?_
    refine ev_getR fl_X12_76 rfl rfl dX12_restoreSnapshot_32 ?_
    refine ev_iconst (nI 2) dX12_restoreSnapshot_35 rfl ?_
    refine ev_ialdv ((show _ = nI L0.length by rw [mp_k (by decide), mp_k (by decide)]; exact s3)) rfl dX12_restoreSnapshot_36 (by omega) (by omega) ?_
    refine ev_putI fp_X12_251 rfl rfl rfl rfl dX12_restoreSnapshot_37 ?_
    rw [hh1]
    refine ev_aload_n dX12_restoreSnapshot_40 rfl ?_
    refine ev_getR fl_X12_76 rfl rfl dX12_restoreSnapshot_41 ?_
    refine ev_iconst (nI 3) dX12_restoreSnapshot_44 rfl ?_
    refine ev_aload_n dX12_restoreSnapshot_45 rfl ?_
    refine ev_getR fl_X12_15 rfl rfl dX12_restoreSnapshot_46 ?_
    refine ev_iconst (nI 0) dX12_restoreSnapshot_49 rfl ?_
    refine ev_bipush (nI 7) dX12_restoreSnapshot_50 rfl ?_
    refine ev_callS (cl_copy (na := 58) (nb := 7) rfl rfl (by decide) (by decide) (by decide) (by decide) (by decide)) ok_X12_copy ml_X12_311 rfl rfl (Nat.le_of_ble_eq_true rfl) dX12_restoreSnapshot_52 ?_
    rintro rv h2 ⟨rfl, f1, rfl, b1, -⟩
    refine ev_aload_n dX12_restoreSnapshot_55 rfl ?_
    refine ev_getR fl_X12_76 rfl rfl dX12_restoreSnapshot_56 ?_
    refine ev_bipush (nI 10) dX12_restoreSnapshot_59 rfl ?_
    refine ev_aload_n dX12_restoreSnapshot_61 rfl ?_
    refine ev_getR fl_X12_47 rfl rfl dX12_restoreSnapshot_62 ?_
    refine ev_iconst (nI 0) dX12_restoreSnapshot_65 rfl ?_
    refine ev_bipush (nI 24) dX12_restoreSnapshot_66 rfl ?_
    refine ev_callS (cl_copy (na := 58) (nb := 24) rfl rfl (by decide) (by decide) (by decide) (by decide) (by decide)) ok_X12_copy ml_X12_311 rfl rfl (Nat.le_of_ble_eq_true rfl) dX12_restoreSnapshot_68 ?_
    rintro rv h2 ⟨rfl, f2, rfl, c1, -⟩
    refine ev_aload_n dX12_restoreSnapshot_71 rfl ?_
    refine ev_getR fl_X12_76 rfl rfl dX12_restoreSnapshot_72 ?_
    refine ev_bipush (nI 34) dX12_restoreSnapshot_75 rfl ?_
    refine ev_aload_n dX12_restoreSnapshot_77 rfl ?_
    refine ev_getR fl_X12_50 rfl rfl dX12_restoreSnapshot_78 ?_
    refine ev_iconst (nI 0) dX12_restoreSnapshot_81 rfl ?_
    refine ev_bipush (nI 24) dX12_restoreSnapshot_82 rfl ?_
    refine ev_callS (cl_copy (na := 58) (nb := 24) rfl rfl (by decide) (by decide) (by decide) (by decide) (by decide)) ok_X12_copy ml_X12_311 rfl rfl (Nat.le_of_ble_eq_true rfl) dX12_restoreSnapshot_84 ?_
    rintro rv h2 ⟨rfl, f3, rfl, d1, -⟩
    have b1' : ∀ i, i < 7 → f1 i = h.1 90 (3 + i) := fun i hi => by
      have := b1 i hi
      rw [Nat.zero_add, a90] at this
      exact this
    have c1' : ∀ i, i < 24 → f2 i = h.1 90 (10 + i) := fun i hi => by
      have := c1 i hi
      rw [Nat.zero_add, ma_k (by decide), a90] at this
      exact this
    have d1' : ∀ i, i < 24 → f3 i = h.1 90 (34 + i) := fun i hi => by
      have := d1 i hi
      rw [Nat.zero_add, ma_k (by decide), ma_k (by decide), a90] at this
      exact this
    generalize hh2 : m_putA (m_putA (m_putA h1 68 f1) 77 f2) 78 f3 = h2
    have m2 : mod (fun k => k ≠ 68 ∧ k ≠ 77 ∧ k ≠ 78) (fun j => j ≠ 0 ∧ j ≠ 16 ∧ j ≠ 18) h h2 := by
      rw [← hh2]
      exact (((m1.mono (fun k _ => trivial) (fun j hj => hj)).tr (mod_a (by simp) (by decide))).tr (mod_a (by simp) (by decide))).tr (mod_a (by simp) (by decide))
    have e67 : h2.1 67 = h1.1 67 := by rw [← hh2, ma_k (by decide), ma_k (by decide), ma_k (by decide)]
    have e68 : h2.1 68 = f1 := by rw [← hh2, ma_k (by decide), ma_k (by decide), ma_eq]
    have e77 : h2.1 77 = f2 := by rw [← hh2, ma_k (by decide), ma_eq]
    have e78 : h2.1 78 = f3 := by rw [← hh2, ma_eq]
    refine ev_aload_n dX12_restoreSnapshot_87 rfl ?_
    refine ev_iconst (nI 0) dX12_restoreSnapshot_88 rfl ?_
    refine ev_putI fp_X12_83 rfl rfl rfl rfl dX12_restoreSnapshot_89 ?_
    refine ev_aload_n dX12_restoreSnapshot_92 rfl ?_
    refine ev_iconst (nI 1) dX12_restoreSnapshot_93 rfl ?_
    refine ev_putI fp_X12_25 rfl rfl rfl rfl dX12_restoreSnapshot_94 ?_
    refine ev_aload_n dX12_restoreSnapshot_97 rfl ?_
    refine ev_getIv ((show _ = nI n by rw [mp_j (by decide), mp_j (by decide), e67]; exact a0)) fl_X12_9 rfl rfl dX12_restoreSnapshot_98 ?_
    refine ev_iret dX12_restoreSnapshot_101 rfl ?_
    refine ⟨rfl, (m2.mono (fun k hk => hk) (fun j hj => ⟨hj.1, hj.2.2.2.1, hj.2.2.2.2⟩)).tr ((mod_f (by simp)).tr (mod_f (by simp))), ⟨by rw [mp_j (by decide), mp_j (by decide), e67]; exact a0, fun v hv => ?_⟩, mp_eq _ _ _ _, ⟨by rw [mp_j (by decide), mp_j (by decide), e67]; exact a1, fun u hu => ?_⟩, ⟨by rw [mp_j (by decide), mp_j (by decide), e67]; exact a2, fun i hi => ?_⟩, by rw [mp_j (by decide)]; exact mp_eq _ _ _ _, fun i hi => absurd hi (Nat.not_lt_zero _)⟩
    · rw [mp_k (by decide), mp_k (by decide), e68, b1' v hv]; exact s4 v hv
    · rw [mp_k (by decide), mp_k (by decide), e77, c1' (3 * u) (by omega), c1' (3 * u + 1) (by omega), c1' (3 * u + 2) (by omega)]; exact s5 u hu
    · rw [mp_k (by decide), mp_k (by decide), e78, d1' i (by omega)]; exact s6 i hi
  · exact absurd c4 (by decide)
/-! the count of changes -/
theorem cl_changeCountC {HL : List Nat} (hh : hC h HL) : Cl G d M_X11_changeCount [.ref 0] h (qI (nI HL.length) h) := by
  refine ev_start 0 (lv := [some (.ref 0)]) rfl (by decide) (Nat.le_of_ble_eq_true rfl) ?_
  refine ev_aload_n dX11_changeCount_0 rfl ?_
  refine ev_getR fl_X11_39 rfl rfl dX11_changeCount_1 ?_
  refine ev_getIv (hh.1) fl_X11_86 rfl rfl dX11_changeCount_4 ?_
  refine ev_iret dX11_changeCount_7 rfl ?_
  exact ⟨by with_reducible rfl, rfl⟩
theorem cl_changeCountM {HL : List Nat} (hh : hM h HL) : Cl G d M_X12_changeCount [.ref 67] h (qI (nI HL.length) h) := by
  refine ev_start 0 (lv := [some (.ref 67)]) rfl (by decide) (Nat.le_of_ble_eq_true rfl) ?_
  refine ev_aload_n dX12_changeCount_0 rfl ?_
  refine ev_getIv (hh.1) fl_X12_83 rfl rfl dX12_changeCount_1 ?_
  refine ev_iret dX12_changeCount_4 rfl ?_
  exact ⟨by with_reducible rfl, rfl⟩
end SNAP

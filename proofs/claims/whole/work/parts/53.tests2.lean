section TESTS2
variable {G : MG} {d : Nat} {h : MH}
theorem cl_addT {T : List Tst} {k a b : Nat} (t : tC h T) (hl : T.length < 8) (hx : okK T.length (k, a, b)) : Cl G d M_X10_add [.ref 34, .int (nI k), .int (nI a), .int (nI b)] h (fun rv h' => rv = some (.int (nI T.length)) ∧ same (fun q => q < 34 ∨ 38 < q) h h' ∧ tC h' (T ++ [(k, a, b)])) := by
  obtain ⟨x1, x2, x3, x4, x5, x6⟩ := hx
  simp only at x1 x2 x3 x4 x5 x6
  have p8 := pow8 hl
  have fin : ∀ (H : MH) (p : Nat), same (fun q => q < 35 ∨ 38 < q) h H → (∀ u, u ≠ T.length → H.1 35 u = h.1 35 u ∧ H.1 36 u = h.1 36 u ∧ H.1 37 u = h.1 37 u ∧ H.1 38 u = h.1 38 u) → H.1 35 T.length = nI k → H.1 36 T.length = nI a → H.1 37 T.length = nI b → H.1 38 T.length = nI p → clo (T ++ [(k, a, b)]) T.length p → Ev G d M_X10_add 93 [some (.ref 34), some (.int (nI k)), some (.int (nI a)), some (.int (nI b)), some (.int (nI T.length))] [] H (fun rv h' => rv = some (.int (nI T.length)) ∧ same (fun q => q < 34 ∨ 38 < q) h h' ∧ tC h' (T ++ [(k, a, b)])) := by
    intro H p sH hu e1 e2 e3 e4 hp
    have eT : H.1 34 4 = nI T.length := by rw [(sH 34 (by decide)).1]; exact t.1
    refine ev_aload_n dX10_add_93 rfl ?_
    refine ev_dup dX10_add_94 rfl ?_
    refine ev_getIv (eT) fl_X10_24 rfl rfl dX10_add_95 ?_
    refine ev_iconst (nI 1) dX10_add_98 rfl ?_
    refine ev_iaddN dX10_add_99 ?_
    refine ev_putI fp_X10_24 rfl rfl rfl rfl dX10_add_100 ?_
    refine ev_iload dX10_add_103 rfl ?_
    refine ev_iret dX10_add_105 rfl ?_
    refine ⟨rfl, (sH.mono (fun q hq => by omega)).tr (same_put (by decide)), by rw [mp_eq, List.length_append]; rfl, fun u hul => ?_⟩
    rw [mp_k (by decide), mp_k (by decide), mp_k (by decide), mp_k (by decide)]
    rw [List.length_append] at hul
    by_cases c : u < T.length
    · obtain ⟨h1, h2, h3, h4⟩ := hu u (by omega)
      obtain ⟨w1, w2, w3, q, w4, w5⟩ := t.2 u c
      rw [tg_l c, h1, h2, h3, h4]
      exact ⟨w1, w2, w3, q, w4, clo_l c w5⟩
    · have e : u = T.length := by simp at hul; omega
      subst e
      rw [tg_e]
      exact ⟨e1, e2, e3, p, e4, hp⟩
  generalize hH : m_put (m_put (m_put h 35 T.length (nI k)) 36 T.length (nI a)) 37 T.length (nI b) = H0 at *
  have s0 : ∀ x, same (fun q => q < 35 ∨ 38 < q) h (m_put H0 38 T.length x) := fun x => by
    rw [← hH]
    exact (((same_put (by decide)).tr (same_put (by decide))).tr (same_put (by decide))).tr (same_put (by decide))
  have f35 : H0.1 35 = upd (h.1 35) T.length (nI k) := by rw [← hH, mp_k (by decide), mp_k (by decide)]; exact ma_eq _ _ _
  have f36 : H0.1 36 = upd (h.1 36) T.length (nI a) := by rw [← hH, mp_k (by decide), show (m_put (m_put h 35 T.length (nI k)) 36 T.length (nI a)).1 36 = upd ((m_put h 35 T.length (nI k)).1 36) T.length (nI a) from ma_eq _ _ _, mp_k (by decide)]
  have f37 : H0.1 37 = upd (h.1 37) T.length (nI b) := by
    rw [← hH, show (m_put (m_put (m_put h 35 T.length (nI k)) 36 T.length (nI a)) 37 T.length (nI b)).1 37 = upd ((m_put (m_put h 35 T.length (nI k)) 36 T.length (nI a)).1 37) T.length (nI b) from ma_eq _ _ _, mp_k (by decide), mp_k (by decide)]
  have f38 : H0.1 38 = h.1 38 := by rw [← hH, mp_k (by decide), mp_k (by decide), mp_k (by decide)]
  have done : ∀ p, clo (T ++ [(k, a, b)]) T.length p → ∀ H, H.2 = H0.2 → (∀ q, q ≠ 38 → H.1 q = H0.1 q) → (∀ u, u ≠ T.length → H.1 38 u = H0.1 38 u) → H.1 38 T.length = nI p → Ev G d M_X10_add 93 [some (.ref 34), some (.int (nI k)), some (.int (nI a)), some (.int (nI b)), some (.int (nI T.length))] [] H (fun rv h' => rv = some (.int (nI T.length)) ∧ same (fun q => q < 34 ∨ 38 < q) h h' ∧ tC h' (T ++ [(k, a, b)])) := by
    intro p hp H g1 g2 g3 g4
    have s1 := s0 (nI 0)
    refine fin H p (fun q hq => ⟨?_, ?_⟩) (fun u hu => ⟨?_, ?_, ?_, ?_⟩) ?_ ?_ ?_ g4 hp
    · rw [g2 q (by omega)]; have := (s1 q hq).1; rwa [mp_k (by omega)] at this
    · rw [g1]; exact (s1 q hq).2
    · rw [g2 35 (by decide), f35, pk_un hu]
    · rw [g2 36 (by decide), f36, pk_un hu]
    · rw [g2 37 (by decide), f37, pk_un hu]
    · rw [g3 u hu, f38]
    · rw [g2 35 (by decide), f35, pk_us]
    · rw [g2 36 (by decide), f36, pk_us]
    · rw [g2 37 (by decide), f37, pk_us]
  have big : 5 ≤ k → Ev G d M_X10_add 70 [some (.ref 34), some (.int (nI k)), some (.int (nI a)), some (.int (nI b)), some (.int (nI T.length))] [] (m_put H0 38 T.length (nI (2 ^ T.length))) (fun rv h' => rv = some (.int (nI T.length)) ∧ same (fun q => q < 34 ∨ 38 < q) h h' ∧ tC h' (T ++ [(k, a, b)])) := by
    intro hk
    obtain ⟨ha, hb⟩ := x5 hk
    obtain ⟨_, _, _, p, ep, cp⟩ := t.2 a ha
    obtain ⟨_, _, _, q, eq, cq⟩ := t.2 b hb
    refine ev_aload_n dX10_add_70 rfl ?_
    refine ev_getR fl_X10_21 rfl rfl dX10_add_71 ?_
    refine ev_iload dX10_add_74 rfl ?_
    refine ev_dup2 dX10_add_76 rfl rfl ?_
    refine ev_ialdv ((show (m_put H0 38 T.length (nI (2 ^ T.length))).1 38 T.length = nI (2 ^ T.length) from mp_eq _ _ _ _)) rfl dX10_add_77 (by omega) (by omega) ?_
    refine ev_aload_n dX10_add_78 rfl ?_
    refine ev_getR fl_X10_21 rfl rfl dX10_add_79 ?_
    refine ev_iload_n dX10_add_82 rfl ?_
    refine ev_ialdv ((show (m_put H0 38 T.length (nI (2 ^ T.length))).1 38 a = nI p by rw [mp_j (by omega), f38]; exact ep)) rfl dX10_add_83 (by omega) (by omega) ?_
    refine ev_aload_n dX10_add_84 rfl ?_
    refine ev_getR fl_X10_21 rfl rfl dX10_add_85 ?_
    refine ev_iload_n dX10_add_88 rfl ?_
    refine ev_ialdv ((show (m_put H0 38 T.length (nI (2 ^ T.length))).1 38 b = nI q by rw [mp_j (by omega), f38]; exact eq)) rfl dX10_add_89 (by omega) (by omega) ?_
    refine ev_iorN dX10_add_90 ?_
    refine ev_iorN dX10_add_91 ?_
    refine ev_iastN rfl dX10_add_92 (by omega) (by omega) ?_
    exact done _ (clo_2 (x := (k, a, b)) hl ha hb cp cq) _ rfl (fun w hw => by rw [mp_k hw, mp_k hw]) (fun u hu => by rw [mp_j hu, mp_j hu]) (mp_eq _ _ _ _)
  refine ev_start 1 (lv := [some (.ref 34), some (.int (nI k)), some (.int (nI a)), some (.int (nI b)), none]) rfl (by decide) (Nat.le_of_ble_eq_true rfl) ?_
  refine ev_aload_n dX10_add_0 rfl ?_
  refine ev_getIv (t.1) fl_X10_24 rfl rfl dX10_add_1 ?_
  refine ev_bipush (nI 8) dX10_add_4 rfl ?_
  refine ev_icmp_neN 12 dX10_add_6 (by decide) (by omega) (by omega) (fun c6 => ?_) (fun c6 => ?_)
  · refine ev_aload_n dX10_add_12 rfl ?_
    refine ev_getIv (t.1) fl_X10_24 rfl rfl dX10_add_13 ?_
    refine ev_ist4 dX10_add_16 (by decide) rfl ?_
    refine ev_aload_n dX10_add_18 rfl ?_
    refine ev_getR fl_X10_11 rfl rfl dX10_add_19 ?_
    refine ev_iload dX10_add_22 rfl ?_
    refine ev_iload_n dX10_add_24 rfl ?_
    refine ev_iastN rfl dX10_add_25 (by omega) (by omega) ?_
    refine ev_aload_n dX10_add_26 rfl ?_
    refine ev_getR fl_X10_15 rfl rfl dX10_add_27 ?_
    refine ev_iload dX10_add_30 rfl ?_
    refine ev_iload_n dX10_add_32 rfl ?_
    refine ev_iastN rfl dX10_add_33 (by omega) (by omega) ?_
    refine ev_aload_n dX10_add_34 rfl ?_
    refine ev_getR fl_X10_18 rfl rfl dX10_add_35 ?_
    refine ev_iload dX10_add_38 rfl ?_
    refine ev_iload_n dX10_add_40 rfl ?_
    refine ev_iastN rfl dX10_add_41 (by omega) (by omega) ?_
    rw [hH]
    refine ev_aload_n dX10_add_42 rfl ?_
    refine ev_getR fl_X10_21 rfl rfl dX10_add_43 ?_
    refine ev_iload dX10_add_46 rfl ?_
    refine ev_iconst (nI 1) dX10_add_48 rfl ?_
    refine ev_iload dX10_add_49 rfl ?_
    refine ev_ishlN dX10_add_51 (by omega) (by rw [Nat.one_mul]; omega) ?_
    rw [Nat.one_mul]
    refine ev_iastN rfl dX10_add_52 (by omega) (by omega) ?_
    refine ev_iload_n dX10_add_53 rfl ?_
    refine ev_iconst (nI 5) dX10_add_54 rfl ?_
    refine ev_icmp_eqN 70 dX10_add_55 (by decide) (by omega) (by omega) (fun c55 => ?_) (fun c55 => ?_)
    · exact big (by omega)
    · refine ev_iload_n dX10_add_58 rfl ?_
      refine ev_bipush (nI 6) dX10_add_59 rfl ?_
      refine ev_icmp_eqN 70 dX10_add_61 (by decide) (by omega) (by omega) (fun c61 => ?_) (fun c61 => ?_)
      · exact big (by omega)
      · refine ev_iload_n dX10_add_64 rfl ?_
        refine ev_bipush (nI 7) dX10_add_65 rfl ?_
        refine ev_icmp_neN 93 dX10_add_67 (by decide) (by omega) (by omega) (fun c67 => ?_) (fun c67 => ?_)
        · exact done _ (clo_0 (x := (k, a, b)) hl (by show k < 5; omega)) _ rfl (fun w hw => mp_k hw) (fun u hu => mp_j hu) (mp_eq _ _ _ _)
        · exact big (by omega)
  · omega
end TESTS2

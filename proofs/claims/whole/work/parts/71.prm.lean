section PRM
variable {G : MG} {d : Nat} {h : MH}
abbrev mP (h h' : MH) : Prop := mod (fun k => k ≠ 78 ∧ k ≠ 81) (fun j => j ≠ 18 ∧ j ≠ 21 ∧ j ≠ 22) h h'
abbrev mP0 (h h' : MH) : Prop := mod (fun k => k ≠ 81) (fun j => j ≠ 22) h h'
theorem cl_parseM {I L : List Nat} (r : iM h I) (o : okI I) (rl : lM h L) : Cl G (d + 2) M_X12_parse [.ref 67] h (fun rv h' => rv = some (.int (prA (prR I))) ∧ mP h h' ∧ iM h' [] ∧ lM h' (prL L (prR I))) := by
  have l60 := o.1
  generalize hR : prR I = R
  have iP : ∀ h1, mP0 h h1 → iM h1 I := fun h1 m => ⟨by rw [m.2 21 (by decide)]; exact r.1, by rw [(m.1 80 (by decide) (by decide)).1]; exact r.2⟩
  have lP : ∀ h1, mP0 h h1 → lM h1 L := fun h1 m => ⟨by rw [m.2 18 (by decide)]; exact rl.1, by rw [(m.1 78 (by decide) (by decide)).1]; exact rl.2⟩
  have mm : ∀ h1, mP0 h h1 → mP h h1 := fun h1 m => m.mono (fun k hk => hk.2) (fun j hj => hj.2.2)
  have copy : ∀ (K : List Nat) (h0 : MH), R = .inr K → K.length ≤ 24 → mP h h0 → iM h0 [] → h0.1 67 18 = nI K.length → hold (h0.1 81) K → ∀ (k i : Nat) (f : Nat → Int32), i + k = K.length → (∀ j, j < i → f j = nI (K.getD j 0)) → Ev G (d + 2) M_X12_parse 139 [some (.ref 67), some (.int (nI K.length)), some (.int (nI 1)), some (.int (nI i))] [] (m_putA h0 78 f) (fun rv h' => rv = some (.int (prA R)) ∧ mP h h' ∧ iM h' [] ∧ lM h' (prL L R)) := by
    intro K h0 eR k24 m0 i0 e0 hR2 k
    have e1 : ∀ f, (m_putA h0 78 f).1 67 18 = nI K.length := fun f => by rw [ma_k (by decide)]; exact e0
    induction k with
    | zero =>
      intro i f hi hf
      obtain rfl : i = K.length := by omega
      refine ev_iload_n dX12_parse_139 rfl ?_
      refine ev_aload_n dX12_parse_140 rfl ?_
      refine ev_getIv (e1 f) fl_X12_251 rfl rfl dX12_parse_141 ?_
      refine ev_icmp_geN 165 dX12_parse_144 (by decide) (by omega) (by omega) (fun c144 => ?_) (fun c144 => ?_)
      · refine ev_aload_n dX12_parse_165 rfl ?_
        refine ev_getIv (e1 f) fl_X12_251 rfl rfl dX12_parse_166 ?_
        refine ev_iret dX12_parse_169 rfl ?_
        refine ⟨by rw [eR]; rfl, m0.tr (mod_a (by simp) (by decide)), ⟨by rw [ma_k (by decide)]; exact i0.1, hold_nil _⟩, ?_⟩
        rw [eR]
        exact ⟨e1 f, by rw [ma_eq]; exact hf⟩
      · omega
    | succ k ih =>
      intro i f hi hf
      refine ev_iload_n dX12_parse_139 rfl ?_
      refine ev_aload_n dX12_parse_140 rfl ?_
      refine ev_getIv (e1 f) fl_X12_251 rfl rfl dX12_parse_141 ?_
      refine ev_icmp_geN 165 dX12_parse_144 (by decide) (by omega) (by omega) (fun c144 => ?_) (fun c144 => ?_)
      · omega
      · refine ev_aload_n dX12_parse_147 rfl ?_
        refine ev_getR fl_X12_50 rfl rfl dX12_parse_148 ?_
        refine ev_iload_n dX12_parse_151 rfl ?_
        refine ev_aload_n dX12_parse_152 rfl ?_
        refine ev_getR fl_X12_59 rfl rfl dX12_parse_153 ?_
        refine ev_iload_n dX12_parse_156 rfl ?_
        refine ev_ialdv ((show (m_putA h0 78 f).1 81 i = nI (K.getD i 0) by rw [ma_k (by decide)]; exact hR2 i (by omega))) rfl dX12_parse_157 (by omega) (by omega) ?_
        refine ev_iastN rfl dX12_parse_158 (by omega) (by omega) ?_
        rw [ma_set]
        refine ev_inc3N dX12_parse_159 (by decide) rfl ?_
        refine ev_goto 139 dX12_parse_162 (by decide) ?_
        exact ih (i + 1) _ (by omega) (fun j hj => by
        by_cases e : j = i
        · subst e; rw [pk_us]
        · rw [pk_un e]; exact hf j (by omega))
  have exN : ∀ (cnt p v : Nat) (x3 : Option Value) (h1 : MH), mP0 h h1 → h1.1 67 22 = nI p → p ≤ I.length → R = .inl p → v < 2 → Ev G (d + 2) M_X12_parse 84 [some (.ref 67), some (.int (nI cnt)), some (.int (nI v)), x3] [.int (-2)] h1 (fun rv h' => rv = some (.int (prA R)) ∧ mP h h' ∧ iM h' [] ∧ lM h' (prL L R)) := by
    intro cnt p v x3 h1 m1 a1 hp eR hv
    have l1 := lP h1 m1
    refine ev_ist3 dX12_parse_84 (by decide) rfl ?_
    refine ev_iload_n dX12_parse_85 rfl ?_
    refine ev_bipush (-2) dX12_parse_86 rfl ?_
    refine ev_icmp_eq 95 dX12_parse_88 (by decide) (fun c88 => ?_) (fun c88 => ?_)
    · refine ev_iconst (nI 0) dX12_parse_95 rfl ?_
      refine ev_ist2 dX12_parse_96 (by decide) rfl ?_
      refine ev_iload_n dX12_parse_97 rfl ?_
      refine ev_if_eqN 111 dX12_parse_98 (by decide) (by omega) (fun c98 => ?_) (fun c98 => ?_)
      · refine ev_goto 9 dX12_parse_111 (by decide) ?_
        refine ev_iload_n dX12_parse_9 rfl ?_
        refine ev_if_eqN 114 dX12_parse_10 (by decide) (by omega) (fun c10 => ?_) (fun c10 => ?_)
        · refine ev_aload_n dX12_parse_114 rfl ?_
          refine ev_iconst (nI 0) dX12_parse_115 rfl ?_
          refine ev_putI fp_X12_279 rfl rfl rfl rfl dX12_parse_116 ?_
          refine ev_iload_n dX12_parse_119 rfl ?_
          refine ev_if_neN 132 dX12_parse_120 (by decide) (by omega) (fun c120 => ?_) (fun c120 => ?_)
          · omega
          · refine ev_sipush (-1000) dX12_parse_123 rfl ?_
            refine ev_aload_n dX12_parse_126 rfl ?_
            refine ev_getIv ((show _ = nI p by rw [mp_j (by decide)]; exact a1)) fl_X12_282 rfl rfl dX12_parse_127 ?_
            refine ev_isub dX12_parse_130 ?_
            refine ev_iret dX12_parse_131 rfl ?_
            refine ⟨by rw [eR]; rfl, (mm h1 m1).tr (mod_f (by simp)), ⟨mp_eq _ _ _ _, hold_nil _⟩, ?_⟩
            rw [eR]
            exact ⟨by rw [mp_j (by decide)]; exact l1.1, by rw [mp_k (by decide)]; exact l1.2⟩
        · omega
      · omega
    · exact absurd rfl c88
  have head : ∀ (k p : Nat) (K : List Nat) (x3 : Option Value) (h1 : MH), I.length - p ≤ k → p ≤ I.length → 1 ≤ K.length → okL K → aft I R p K → mP0 h h1 → h1.1 67 22 = nI p → hold (h1.1 81) K → Ev G (d + 2) M_X12_parse 9 [some (.ref 67), some (.int (nI K.length)), some (.int (nI 1)), x3] [] h1 (fun rv h' => rv = some (.int (prA R)) ∧ mP h h' ∧ iM h' [] ∧ lM h' (prL L R)) := by
    intro k
    induction k with
    | zero =>
      intro p K x3 h1 hk hp k1 oK af m1 a1 hKd
      have eR := af.1 (by omega)
      have k24 := oK.1
      have i1 := iP h1 m1
      refine ev_iload_n dX12_parse_9 rfl ?_
      refine ev_if_eqN 114 dX12_parse_10 (by decide) (by omega) (fun c10 => ?_) (fun c10 => ?_)
      · omega
      · refine ev_iload_n dX12_parse_13 rfl ?_
        refine ev_if_eqN 28 dX12_parse_14 (by decide) (by omega) (fun c14 => ?_) (fun c14 => ?_)
        · omega
        · refine ev_aload_n dX12_parse_17 rfl ?_
          refine ev_getIv (a1) fl_X12_282 rfl rfl dX12_parse_18 ?_
          refine ev_aload_n dX12_parse_21 rfl ?_
          refine ev_getIv (i1.1) fl_X12_279 rfl rfl dX12_parse_22 ?_
          refine ev_icmp_geN 114 dX12_parse_25 (by decide) (by omega) (by omega) (fun c25 => ?_) (fun c25 => ?_)
          · refine ev_aload_n dX12_parse_114 rfl ?_
            refine ev_iconst (nI 0) dX12_parse_115 rfl ?_
            refine ev_putI fp_X12_279 rfl rfl rfl rfl dX12_parse_116 ?_
            refine ev_iload_n dX12_parse_119 rfl ?_
            refine ev_if_neN 132 dX12_parse_120 (by decide) (by omega) (fun c120 => ?_) (fun c120 => ?_)
            · refine ev_aload_n dX12_parse_132 rfl ?_
              refine ev_iload_n dX12_parse_133 rfl ?_
              refine ev_putI fp_X12_251 rfl rfl rfl rfl dX12_parse_134 ?_
              refine ev_iconst (nI 0) dX12_parse_137 rfl ?_
              refine ev_ist3 dX12_parse_138 (by decide) rfl ?_
              have q := copy K (m_put (m_put h1 67 21 (nI 0)) 67 18 (nI K.length)) eR k24 (((mm h1 m1).tr (mod_f (by simp))).tr (mod_f (by simp))) ⟨by rw [mp_j (by decide)]; exact mp_eq _ _ _ _, hold_nil _⟩ (mp_eq _ _ _ _) (by rw [mp_k (by decide), mp_k (by decide)]; exact hKd) K.length 0 ((m_put (m_put h1 67 21 (nI 0)) 67 18 (nI K.length)).1 78) (by omega) (fun j hj => absurd hj (Nat.not_lt_zero _))
              rw [ma_self] at q
              exact q
            · omega
          · omega
    | succ k ih =>
      intro p K x3 h1 hk hp k1 oK af m1 a1 hKd
      have k24 := oK.1
      have i1 := iP h1 m1
      by_cases cp : p = I.length
      · have eR := af.1 cp
        refine ev_iload_n dX12_parse_9 rfl ?_
        refine ev_if_eqN 114 dX12_parse_10 (by decide) (by omega) (fun c10 => ?_) (fun c10 => ?_)
        · omega
        · refine ev_iload_n dX12_parse_13 rfl ?_
          refine ev_if_eqN 28 dX12_parse_14 (by decide) (by omega) (fun c14 => ?_) (fun c14 => ?_)
          · omega
          · refine ev_aload_n dX12_parse_17 rfl ?_
            refine ev_getIv (a1) fl_X12_282 rfl rfl dX12_parse_18 ?_
            refine ev_aload_n dX12_parse_21 rfl ?_
            refine ev_getIv (i1.1) fl_X12_279 rfl rfl dX12_parse_22 ?_
            refine ev_icmp_geN 114 dX12_parse_25 (by decide) (by omega) (by omega) (fun c25 => ?_) (fun c25 => ?_)
            · refine ev_aload_n dX12_parse_114 rfl ?_
              refine ev_iconst (nI 0) dX12_parse_115 rfl ?_
              refine ev_putI fp_X12_279 rfl rfl rfl rfl dX12_parse_116 ?_
              refine ev_iload_n dX12_parse_119 rfl ?_
              refine ev_if_neN 132 dX12_parse_120 (by decide) (by omega) (fun c120 => ?_) (fun c120 => ?_)
              · refine ev_aload_n dX12_parse_132 rfl ?_
                refine ev_iload_n dX12_parse_133 rfl ?_
                refine ev_putI fp_X12_251 rfl rfl rfl rfl dX12_parse_134 ?_
                refine ev_iconst (nI 0) dX12_parse_137 rfl ?_
                refine ev_ist3 dX12_parse_138 (by decide) rfl ?_
                have q := copy K (m_put (m_put h1 67 21 (nI 0)) 67 18 (nI K.length)) eR k24 (((mm h1 m1).tr (mod_f (by simp))).tr (mod_f (by simp))) ⟨by rw [mp_j (by decide)]; exact mp_eq _ _ _ _, hold_nil _⟩ (mp_eq _ _ _ _) (by rw [mp_k (by decide), mp_k (by decide)]; exact hKd) K.length 0 ((m_put (m_put h1 67 21 (nI 0)) 67 18 (nI K.length)).1 78) (by omega) (fun j hj => absurd hj (Nat.not_lt_zero _))
                rw [ma_self] at q
                exact q
              · omega
            · omega
      · have cp2 : p < I.length := by omega
        have ob := o.2 p cp2
        by_cases cc : K.length < 24 ∧ I.getD p 0 = 44
        · have e2 := (af.2.2 cp2 cc.2).2 (by omega)
          have m2 : mP0 h (m_put h1 67 22 (nI (p + 1))) := m1.tr (mod_f (by simp))
          have a2 : (m_put h1 67 22 (nI (p + 1))).1 67 22 = nI (p + 1) := mp_eq _ _ _ _
          have rd := cl_readMonomial (G := G) (d := d) (K := K) (iP _ m2) o a2 (by omega) e2 oK (by omega)
          refine ev_iload_n dX12_parse_9 rfl ?_
          refine ev_if_eqN 114 dX12_parse_10 (by decide) (by omega) (fun c10 => ?_) (fun c10 => ?_)
          · omega
          · refine ev_iload_n dX12_parse_13 rfl ?_
            refine ev_if_eqN 28 dX12_parse_14 (by decide) (by omega) (fun c14 => ?_) (fun c14 => ?_)
            · omega
            · refine ev_aload_n dX12_parse_17 rfl ?_
              refine ev_getIv (a1) fl_X12_282 rfl rfl dX12_parse_18 ?_
              refine ev_aload_n dX12_parse_21 rfl ?_
              refine ev_getIv (i1.1) fl_X12_279 rfl rfl dX12_parse_22 ?_
              refine ev_icmp_geN 114 dX12_parse_25 (by decide) (by omega) (by omega) (fun c25 => ?_) (fun c25 => ?_)
              · omega
              · refine ev_iload_n dX12_parse_28 rfl ?_
                refine ev_if_leN 71 dX12_parse_29 (by decide) (by omega) (fun c29 => ?_) (fun c29 => ?_)
                · omega
                · refine ev_iload_n dX12_parse_32 rfl ?_
                  refine ev_bipush (nI 24) dX12_parse_33 rfl ?_
                  refine ev_icmp_geN 51 dX12_parse_35 (by decide) (by omega) (by omega) (fun c35 => ?_) (fun c35 => ?_)
                  · omega
                  · refine ev_aload_n dX12_parse_38 rfl ?_
                    refine ev_callV (cl_cur_in i1 o cp2 a1) ok_X12_current ml_X12_285 rfl rfl rfl rfl (Nat.le_of_ble_eq_true rfl) dX12_parse_39 (kI ?_)
                    refine ev_bipush (nI 44) dX12_parse_42 rfl ?_
                    refine ev_icmp_neN 51 dX12_parse_44 (by decide) (by omega) (by omega) (fun c44 => ?_) (fun c44 => ?_)
                    · omega
                    · refine ev_iconst (nI 1) dX12_parse_47 rfl ?_
                      refine ev_goto 52 dX12_parse_48 (by decide) ?_
                      refine ev_ist2 dX12_parse_52 (by decide) rfl ?_
                      refine ev_aload_n dX12_parse_53 rfl ?_
                      refine ev_dup dX12_parse_54 rfl ?_
                      refine ev_getIv (a1) fl_X12_282 rfl rfl dX12_parse_55 ?_
                      refine ev_iload_n dX12_parse_58 rfl ?_
                      refine ev_if_eqN 66 dX12_parse_59 (by decide) (by omega) (fun c59 => ?_) (fun c59 => ?_)
                      · omega
                      · refine ev_iconst (nI 1) dX12_parse_62 rfl ?_
                        refine ev_goto 67 dX12_parse_63 (by decide) ?_
                        refine ev_iaddN dX12_parse_67 ?_
                        refine ev_putI fp_X12_282 rfl rfl rfl rfl dX12_parse_68 ?_
                        refine ev_iload_n dX12_parse_71 rfl ?_
                        refine ev_if_eqN 82 dX12_parse_72 (by decide) (by omega) (fun c72 => ?_) (fun c72 => ?_)
                        · omega
                        · refine ev_aload_n dX12_parse_75 rfl ?_
                          refine ev_callV (rd) ok_X12_readMonomial ml_X12_290 rfl rfl rfl rfl (Nat.le_of_ble_eq_true rfl) dX12_parse_76 ?_
                          rintro rv h3 ⟨ma, p', a3, hp3, hh⟩
                          have m3 : mP0 h h3 := m2.tr (ma.mono (fun k hk => trivial) (fun j hj => hj))
                          rcases hh with ⟨rfl, eR⟩ | ⟨c', rfl, hc, hlt, af3⟩
                          · refine ev_goto 84 dX12_parse_79 (by decide) ?_
                            exact exN _ p' 1 _ h3 m3 a3 hp3 eR (by decide)
                          refine ev_goto 84 dX12_parse_79 (by decide) ?_
                          refine ev_ist3 dX12_parse_84 (by decide) rfl ?_
                          skip
                          refine ev_iload_n dX12_parse_85 rfl ?_
                          refine ev_bipush (-2) dX12_parse_86 rfl ?_
                          refine ev_icmp_eq 95 dX12_parse_88 (by decide) (fun c88 => ?_) (fun c88 => ?_)
                          · exact absurd c88 (nI_m2 (by omega))
                          · refine ev_iconst (nI 1) dX12_parse_91 rfl ?_
                            refine ev_goto 96 dX12_parse_92 (by decide) ?_
                            refine ev_ist2 dX12_parse_96 (by decide) rfl ?_
                            refine ev_iload_n dX12_parse_97 rfl ?_
                            refine ev_if_eqN 111 dX12_parse_98 (by decide) (by omega) (fun c98 => ?_) (fun c98 => ?_)
                            · omega
                            · refine ev_aload_n dX12_parse_101 rfl ?_
                              refine ev_getR fl_X12_59 rfl rfl dX12_parse_102 ?_
                              refine ev_iload_n dX12_parse_105 rfl ?_
                              refine ev_iload_n dX12_parse_106 rfl ?_
                              refine ev_iastN rfl dX12_parse_107 (by omega) (by omega) ?_
                              refine ev_inc1N dX12_parse_108 (by decide) rfl ?_
                              refine ev_goto 9 dX12_parse_111 (by decide) ?_
                              have q := ih p' (K ++ [c']) (some (.int (nI c'))) (m_put h3 81 K.length (nI c')) (by omega) hp3 (by rw [List.length_append]; simp) (okL_snoc oK cc.1 hc) af3 (m3.tr (mod_p (by simp) (by decide))) (by rw [mp_k (by decide)]; exact a3) (by
                                rw [show (m_put h3 81 K.length (nI c')).1 81 = upd (h3.1 81) K.length (nI c') from ma_eq _ _ _]
                                have e81 : h3.1 81 = h1.1 81 := by rw [(ma.1 81 (by decide) trivial).1, mp_k (by decide)]
                                rw [e81]
                                exact hold_snoc hKd)
                              rw [List.length_append] at q
                              exact q
        · have eR : R = .inl p := by
            by_cases c4 : I.getD p 0 = 44
            · exact (af.2.2 cp2 c4).1 (by omega)
            · exact af.2.1 cp2 c4
          have m2 : mP0 h (m_put h1 67 22 (nI (p + 0))) := m1.tr (mod_f (by simp))
          refine ev_iload_n dX12_parse_9 rfl ?_
          refine ev_if_eqN 114 dX12_parse_10 (by decide) (by omega) (fun c10 => ?_) (fun c10 => ?_)
          · omega
          · refine ev_iload_n dX12_parse_13 rfl ?_
            refine ev_if_eqN 28 dX12_parse_14 (by decide) (by omega) (fun c14 => ?_) (fun c14 => ?_)
            · omega
            · refine ev_aload_n dX12_parse_17 rfl ?_
              refine ev_getIv (a1) fl_X12_282 rfl rfl dX12_parse_18 ?_
              refine ev_aload_n dX12_parse_21 rfl ?_
              refine ev_getIv (i1.1) fl_X12_279 rfl rfl dX12_parse_22 ?_
              refine ev_icmp_geN 114 dX12_parse_25 (by decide) (by omega) (by omega) (fun c25 => ?_) (fun c25 => ?_)
              · omega
              · refine ev_iload_n dX12_parse_28 rfl ?_
                refine ev_if_leN 71 dX12_parse_29 (by decide) (by omega) (fun c29 => ?_) (fun c29 => ?_)
                · omega
                · refine ev_iload_n dX12_parse_32 rfl ?_
                  refine ev_bipush (nI 24) dX12_parse_33 rfl ?_
                  refine ev_icmp_geN 51 dX12_parse_35 (by decide) (by omega) (by omega) (fun c35 => ?_) (fun c35 => ?_)
                  · refine ev_iconst (nI 0) dX12_parse_51 rfl ?_
                    refine ev_ist2 dX12_parse_52 (by decide) rfl ?_
                    refine ev_aload_n dX12_parse_53 rfl ?_
                    refine ev_dup dX12_parse_54 rfl ?_
                    refine ev_getIv (a1) fl_X12_282 rfl rfl dX12_parse_55 ?_
                    refine ev_iload_n dX12_parse_58 rfl ?_
                    refine ev_if_eqN 66 dX12_parse_59 (by decide) (by omega) (fun c59 => ?_) (fun c59 => ?_)
                    · refine ev_iconst (nI 0) dX12_parse_66 rfl ?_
                      refine ev_iaddN dX12_parse_67 ?_
                      refine ev_putI fp_X12_282 rfl rfl rfl rfl dX12_parse_68 ?_
                      refine ev_iload_n dX12_parse_71 rfl ?_
                      refine ev_if_eqN 82 dX12_parse_72 (by decide) (by omega) (fun c72 => ?_) (fun c72 => ?_)
                      · refine ev_bipush (-2) dX12_parse_82 rfl ?_
                        exact exN _ p 0 _ _ m2 (mp_eq _ _ _ _) hp eR (by decide)
                      · omega
                    · omega
                  · refine ev_aload_n dX12_parse_38 rfl ?_
                    refine ev_callV (cl_cur_in i1 o cp2 a1) ok_X12_current ml_X12_285 rfl rfl rfl rfl (Nat.le_of_ble_eq_true rfl) dX12_parse_39 (kI ?_)
                    refine ev_bipush (nI 44) dX12_parse_42 rfl ?_
                    refine ev_icmp_neN 51 dX12_parse_44 (by decide) (by omega) (by omega) (fun c44 => ?_) (fun c44 => ?_)
                    · refine ev_iconst (nI 0) dX12_parse_51 rfl ?_
                      refine ev_ist2 dX12_parse_52 (by decide) rfl ?_
                      refine ev_aload_n dX12_parse_53 rfl ?_
                      refine ev_dup dX12_parse_54 rfl ?_
                      refine ev_getIv (a1) fl_X12_282 rfl rfl dX12_parse_55 ?_
                      refine ev_iload_n dX12_parse_58 rfl ?_
                      refine ev_if_eqN 66 dX12_parse_59 (by decide) (by omega) (fun c59 => ?_) (fun c59 => ?_)
                      · refine ev_iconst (nI 0) dX12_parse_66 rfl ?_
                        refine ev_iaddN dX12_parse_67 ?_
                        refine ev_putI fp_X12_282 rfl rfl rfl rfl dX12_parse_68 ?_
                        refine ev_iload_n dX12_parse_71 rfl ?_
                        refine ev_if_eqN 82 dX12_parse_72 (by decide) (by omega) (fun c72 => ?_) (fun c72 => ?_)
                        · refine ev_bipush (-2) dX12_parse_82 rfl ?_
                          exact exN _ p 0 _ _ m2 (mp_eq _ _ _ _) hp eR (by decide)
                        · omega
                      · omega
                    · omega
  have m2 : mP0 h (m_put h 67 22 (nI 0)) := mod_f (by simp)
  have rd := cl_readMonomial (G := G) (d := d) (K := []) (p0 := 0) (R := R) (iP _ m2) o (mp_eq _ _ _ _) (by omega) (by rw [Nat.sub_zero]; exact hR) okL_nil (by simp)
  refine ev_start 3 (lv := [some (.ref 67), none, none, none]) rfl (by decide) (Nat.le_of_ble_eq_true rfl) ?_
  refine ev_aload_n dX12_parse_0 rfl ?_
  refine ev_iconst (nI 0) dX12_parse_1 rfl ?_
  refine ev_putI fp_X12_282 rfl rfl rfl rfl dX12_parse_2 ?_
  refine ev_iconst (nI 0) dX12_parse_5 rfl ?_
  refine ev_ist1 dX12_parse_6 (by decide) rfl ?_
  refine ev_iconst (nI 1) dX12_parse_7 rfl ?_
  refine ev_ist2 dX12_parse_8 (by decide) rfl ?_
  refine ev_iload_n dX12_parse_9 rfl ?_
  refine ev_if_eqN 114 dX12_parse_10 (by decide) (by omega) (fun c10 => ?_) (fun c10 => ?_)
  · omega
  · refine ev_iload_n dX12_parse_13 rfl ?_
    refine ev_if_eqN 28 dX12_parse_14 (by decide) (by omega) (fun c14 => ?_) (fun c14 => ?_)
    · refine ev_iload_n dX12_parse_28 rfl ?_
      refine ev_if_leN 71 dX12_parse_29 (by decide) (by omega) (fun c29 => ?_) (fun c29 => ?_)
      · refine ev_iload_n dX12_parse_71 rfl ?_
        refine ev_if_eqN 82 dX12_parse_72 (by decide) (by omega) (fun c72 => ?_) (fun c72 => ?_)
        · omega
        · refine ev_aload_n dX12_parse_75 rfl ?_
          refine ev_callV (rd) ok_X12_readMonomial ml_X12_290 rfl rfl rfl rfl (Nat.le_of_ble_eq_true rfl) dX12_parse_76 ?_
          rintro rv h3 ⟨ma, p', a3, hp3, hh⟩
          have m3 : mP0 h h3 := m2.tr (ma.mono (fun k hk => trivial) (fun j hj => hj))
          rcases hh with ⟨rfl, eR⟩ | ⟨c', rfl, hc, hlt, af3⟩
          · refine ev_goto 84 dX12_parse_79 (by decide) ?_
            exact exN _ p' 1 _ h3 m3 a3 hp3 eR (by decide)
          refine ev_goto 84 dX12_parse_79 (by decide) ?_
          refine ev_ist3 dX12_parse_84 (by decide) rfl ?_
          skip
          refine ev_iload_n dX12_parse_85 rfl ?_
          refine ev_bipush (-2) dX12_parse_86 rfl ?_
          refine ev_icmp_eq 95 dX12_parse_88 (by decide) (fun c88 => ?_) (fun c88 => ?_)
          · exact absurd c88 (nI_m2 (by omega))
          · refine ev_iconst (nI 1) dX12_parse_91 rfl ?_
            refine ev_goto 96 dX12_parse_92 (by decide) ?_
            refine ev_ist2 dX12_parse_96 (by decide) rfl ?_
            refine ev_iload_n dX12_parse_97 rfl ?_
            refine ev_if_eqN 111 dX12_parse_98 (by decide) (by omega) (fun c98 => ?_) (fun c98 => ?_)
            · omega
            · refine ev_aload_n dX12_parse_101 rfl ?_
              refine ev_getR fl_X12_59 rfl rfl dX12_parse_102 ?_
              refine ev_iload_n dX12_parse_105 rfl ?_
              refine ev_iload_n dX12_parse_106 rfl ?_
              refine ev_iastN rfl dX12_parse_107 (by omega) (by omega) ?_
              refine ev_inc1N dX12_parse_108 (by decide) rfl ?_
              refine ev_goto 9 dX12_parse_111 (by decide) ?_
              have q := head I.length p' ([] ++ [c']) (some (.int (nI c'))) (m_put h3 81 0 (nI c')) (by omega) hp3 (by simp) (okL_snoc okL_nil (by simp) hc) af3 (m3.tr (mod_p (by simp) (by decide))) (by rw [mp_k (by decide)]; exact a3) (by
                rw [show (m_put h3 81 0 (nI c')).1 81 = upd (h3.1 81) 0 (nI c') from ma_eq _ _ _]
                exact hold_snoc (L := []) (hold_nil _))
              exact q
      · omega
    · omega
end PRM

section BUILD3
variable {G : MG} {d : Nat} {h : MH}
theorem cl_buildC {n N kind : Nat} {HL : List Nat} (g : gC h n N) (ok : gOK n N) (hh : hC h HL) (hl : HL.length ≤ 12) (hk : kind ≤ 5) (hc : kind = 1 → 3 ≤ n) : Cl G (d + 3) M_X11_build [.ref 0, .int (nI kind)] h (fun rv h' => ∃ X, MP X (PB n N kind) ∧ rv = some (.int (nI (pcs 49 X / 2))) ∧ same (fun k => ¬ gone k ∧ k ≠ 32 ∧ k ≠ 33) h h' ∧ gC h' n X ∧ hC h' (pushH HL N) ∧ fresh h') := by
  have hn := ok.2.1
  have step : Ev G (d + 3) M_X11_build 30 [some (.ref 0), some (.int (nI kind))] [] h (fun rv h' => ∃ X, MP X (PB n N kind) ∧ rv = some (.int (nI (pcs 49 X / 2))) ∧ same (fun k => ¬ gone k ∧ k ≠ 32 ∧ k ≠ 33) h h' ∧ gC h' n X ∧ hC h' (pushH HL N) ∧ fresh h') := by
    refine ev_aload_n dX11_build_30 rfl ?_
    refine ev_aload_n dX11_build_31 rfl ?_
    refine ev_getR fl_X11_14 rfl rfl dX11_build_32 ?_
    refine ev_iload_n dX11_build_35 rfl ?_
    refine ev_callV (cl_matrixOfKind g ok hk hc) ok_X1_matrixOfKind ml_X11_109 rfl rfl rfl rfl (Nat.le_of_ble_eq_true rfl) dX11_build_36 ?_
    rintro rv h2 ⟨rfl, X, rfl, hX⟩
    refine ev_callV (cl_recordChange g hh hl) ok_X11_recordChange ml_X11_101 rfl rfl rfl rfl (Nat.le_of_ble_eq_true rfl) dX11_build_39 ?_
    rintro rv h3 ⟨rfl, hs, g3, hh3, f3⟩
    refine ev_aload_n dX11_build_42 rfl ?_
    refine ev_getR fl_X11_14 rfl rfl dX11_build_43 ?_
    refine ev_callV (cl_edgeTotal g3 hX.1) ok_X1_edgeTotal ml_X11_113 rfl rfl rfl rfl (Nat.le_of_ble_eq_true rfl) dX11_build_46 (kI ?_)
    refine ev_iret dX11_build_49 rfl ?_
    exact ⟨X, hX, rfl, hs, g3, hh3, f3⟩
  refine ev_start 0 (lv := [some (.ref 0), some (.int (nI kind))]) rfl (by decide) (Nat.le_of_ble_eq_true rfl) ?_
  refine ev_iload_n dX11_build_0 rfl ?_
  refine ev_if_ltN 9 dX11_build_1 (by decide) (by omega) (fun c1 => ?_) (fun c1 => ?_)
  · exact c1.elim
  · refine ev_iload_n dX11_build_4 rfl ?_
    refine ev_iconst (nI 5) dX11_build_5 rfl ?_
    refine ev_icmp_leN 11 dX11_build_6 (by decide) (by omega) (by omega) (fun c6 => ?_) (fun c6 => ?_)
    · refine ev_iload_n dX11_build_11 rfl ?_
      refine ev_iconst (nI 1) dX11_build_12 rfl ?_
      refine ev_icmp_neN 30 dX11_build_13 (by decide) (by omega) (by omega) (fun c13 => ?_) (fun c13 => ?_)
      · exact step
      · refine ev_aload_n dX11_build_16 rfl ?_
        refine ev_getR fl_X11_14 rfl rfl dX11_build_17 ?_
        refine ev_getIv (g.1) fl_X11_78 rfl rfl dX11_build_20 ?_
        refine ev_iconst (nI 3) dX11_build_23 rfl ?_
        refine ev_icmp_geN 30 dX11_build_24 (by decide) (by omega) (by omega) (fun c24 => ?_) (fun c24 => ?_)
        · exact step
        · omega
    · omega
theorem cl_buildC_bad {x : Int32} (hx : ¬ rg x 0 5) : Cl G d M_X11_build [.ref 0, .int x] h (qI (-1) h) := by
  rw [rg_iff (by decide) (by decide)] at hx
  refine ev_start 0 (lv := [some (.ref 0), some (.int x)]) rfl (by decide) (Nat.le_of_ble_eq_true rfl) ?_
  refine ev_iload_n dX11_build_0 rfl ?_
  refine ev_if_lt 9 dX11_build_1 (by decide) (fun c1 => ?_) (fun c1 => ?_)
  · refine ev_iconst (-1) dX11_build_9 rfl ?_
    refine ev_iret dX11_build_10 rfl ?_
    exact ⟨by with_reducible rfl, rfl⟩
  · refine ev_iload_n dX11_build_4 rfl ?_
    refine ev_iconst (nI 5) dX11_build_5 rfl ?_
    refine ev_icmp_le 11 dX11_build_6 (by decide) (fun c6 => ?_) (fun c6 => ?_)
    · exact absurd ⟨Int32.not_lt.mp c1, c6⟩ hx
    · refine ev_iconst (-1) dX11_build_9 rfl ?_
      refine ev_iret dX11_build_10 rfl ?_
      exact ⟨by with_reducible rfl, rfl⟩
theorem cl_buildC_np {n N : Nat} (g : gC h n N) (hn : n < 3) : Cl G d M_X11_build [.ref 0, .int (nI 1)] h (qI (-5) h) := by
  refine ev_start 0 (lv := [some (.ref 0), some (.int (nI 1))]) rfl (by decide) (Nat.le_of_ble_eq_true rfl) ?_
  refine ev_iload_n dX11_build_0 rfl ?_
  refine ev_if_ltN 9 dX11_build_1 (by decide) (by omega) (fun c1 => ?_) (fun c1 => ?_)
  · exact c1.elim
  · refine ev_iload_n dX11_build_4 rfl ?_
    refine ev_iconst (nI 5) dX11_build_5 rfl ?_
    refine ev_icmp_leN 11 dX11_build_6 (by decide) (by omega) (by omega) (fun c6 => ?_) (fun c6 => ?_)
    · refine ev_iload_n dX11_build_11 rfl ?_
      refine ev_iconst (nI 1) dX11_build_12 rfl ?_
      refine ev_icmp_neN 30 dX11_build_13 (by decide) (by omega) (by omega) (fun c13 => ?_) (fun c13 => ?_)
      · exact absurd rfl c13
      · refine ev_aload_n dX11_build_16 rfl ?_
        refine ev_getR fl_X11_14 rfl rfl dX11_build_17 ?_
        refine ev_getIv (g.1) fl_X11_78 rfl rfl dX11_build_20 ?_
        refine ev_iconst (nI 3) dX11_build_23 rfl ?_
        refine ev_icmp_geN 30 dX11_build_24 (by decide) (by omega) (by omega) (fun c24 => ?_) (fun c24 => ?_)
        · omega
        · refine ev_bipush (-5) dX11_build_27 rfl ?_
          refine ev_iret dX11_build_29 rfl ?_
          exact ⟨by with_reducible rfl, rfl⟩
    · omega
theorem cl_hasBuiltEdge {n N kind u v : Nat} (g : gM h n N) (ok : gOK n N) (hk : kind ≤ 5) (hu : u < n) (hv : v < n) (huv : u ≠ v) : Cl G (d + 1) M_X12_hasBuiltEdge [.ref 67, .int (nI kind), .int (nI u), .int (nI v)] h (qI (nI (b01 (PK n N kind u v))) h) := by
  have hn := ok.2.1
  have key : ∀ lo hi : Nat, (lo = u ∧ hi = v ∨ lo = v ∧ hi = u) → lo < hi → Ev G (d + 1) M_X12_hasBuiltEdge 24 [some (.ref 67), some (.int (nI kind)), some (.int (nI u)), some (.int (nI v)), some (.int (nI lo)), some (.int (nI hi))] [] h (qI (nI (b01 (PK n N kind u v))) h) := by
    intro lo hi he hlt
    rcases (show kind = 0 ∨ kind = 1 ∨ kind = 2 ∨ kind = 3 ∨ kind = 4 ∨ kind = 5 by omega) with rfl | rfl | rfl | rfl | rfl | rfl
    · refine ev_iload_n dX12_hasBuiltEdge_24 rfl ?_
      refine ev_tsIn 60 dX12_hasBuiltEdge_25 (by decide) (by decide) (show _ = some 35 from by decide) (by decide) ?_
      refine ev_iconst (nI 0) dX12_hasBuiltEdge_60 rfl ?_
      refine ev_zret dX12_hasBuiltEdge_61 rfl rfl ?_
      exact ⟨by rw [b01_f (show ¬ PK n N 0 u v from fun q => q)], rfl⟩
    · refine ev_iload_n dX12_hasBuiltEdge_24 rfl ?_
      refine ev_tsIn 62 dX12_hasBuiltEdge_25 (by decide) (by decide) (show _ = some 37 from by decide) (by decide) ?_
      refine ev_iload dX12_hasBuiltEdge_62 rfl ?_
      refine ev_iload dX12_hasBuiltEdge_64 rfl ?_
      refine ev_iconst (nI 1) dX12_hasBuiltEdge_66 rfl ?_
      refine ev_iaddN dX12_hasBuiltEdge_67 ?_
      refine ev_icmp_eqN 87 dX12_hasBuiltEdge_68 (by decide) (by omega) (by omega) (fun c68 => ?_) (fun c68 => ?_)
      · refine ev_iconst (nI 1) dX12_hasBuiltEdge_87 rfl ?_
        refine ev_goto 92 dX12_hasBuiltEdge_88 (by decide) ?_
        refine ev_zret dX12_hasBuiltEdge_92 rfl rfl ?_
        exact ⟨by rw [b01_t (show PK n N 1 u v by simp only [PK]; omega)], rfl⟩
      · refine ev_iload dX12_hasBuiltEdge_71 rfl ?_
        refine ev_if_neN 91 dX12_hasBuiltEdge_73 (by decide) (by omega) (fun c73 => ?_) (fun c73 => ?_)
        · refine ev_iconst (nI 0) dX12_hasBuiltEdge_91 rfl ?_
          refine ev_zret dX12_hasBuiltEdge_92 rfl rfl ?_
          exact ⟨by rw [b01_f (show ¬ PK n N 1 u v by simp only [PK]; omega)], rfl⟩
        · refine ev_iload dX12_hasBuiltEdge_76 rfl ?_
          refine ev_aload_n dX12_hasBuiltEdge_78 rfl ?_
          refine ev_getIv (g.1) fl_X12_9 rfl rfl dX12_hasBuiltEdge_79 ?_
          refine ev_iconst (nI 1) dX12_hasBuiltEdge_82 rfl ?_
          refine ev_isubN dX12_hasBuiltEdge_83 (by omega) ?_
          refine ev_icmp_neN 91 dX12_hasBuiltEdge_84 (by decide) (by omega) (by omega) (fun c84 => ?_) (fun c84 => ?_)
          · refine ev_iconst (nI 0) dX12_hasBuiltEdge_91 rfl ?_
            refine ev_zret dX12_hasBuiltEdge_92 rfl rfl ?_
            exact ⟨by rw [b01_f (show ¬ PK n N 1 u v by simp only [PK]; omega)], rfl⟩
          · refine ev_iconst (nI 1) dX12_hasBuiltEdge_87 rfl ?_
            refine ev_goto 92 dX12_hasBuiltEdge_88 (by decide) ?_
            refine ev_zret dX12_hasBuiltEdge_92 rfl rfl ?_
            exact ⟨by rw [b01_t (show PK n N 1 u v by simp only [PK]; omega)], rfl⟩
    · refine ev_iload_n dX12_hasBuiltEdge_24 rfl ?_
      refine ev_tsIn 93 dX12_hasBuiltEdge_25 (by decide) (by decide) (show _ = some 68 from by decide) (by decide) ?_
      refine ev_iload dX12_hasBuiltEdge_93 rfl ?_
      refine ev_iload dX12_hasBuiltEdge_95 rfl ?_
      refine ev_iconst (nI 1) dX12_hasBuiltEdge_97 rfl ?_
      refine ev_iaddN dX12_hasBuiltEdge_98 ?_
      refine ev_icmp_neN 106 dX12_hasBuiltEdge_99 (by decide) (by omega) (by omega) (fun c99 => ?_) (fun c99 => ?_)
      · refine ev_iconst (nI 0) dX12_hasBuiltEdge_106 rfl ?_
        refine ev_zret dX12_hasBuiltEdge_107 rfl rfl ?_
        exact ⟨by rw [b01_f (show ¬ PK n N 2 u v by simp only [PK]; omega)], rfl⟩
      · refine ev_iconst (nI 1) dX12_hasBuiltEdge_102 rfl ?_
        refine ev_goto 107 dX12_hasBuiltEdge_103 (by decide) ?_
        refine ev_zret dX12_hasBuiltEdge_107 rfl rfl ?_
        exact ⟨by rw [b01_t (show PK n N 2 u v by simp only [PK]; omega)], rfl⟩
    · refine ev_iload_n dX12_hasBuiltEdge_24 rfl ?_
      refine ev_tsIn 108 dX12_hasBuiltEdge_25 (by decide) (by decide) (show _ = some 83 from by decide) (by decide) ?_
      refine ev_iconst (nI 1) dX12_hasBuiltEdge_108 rfl ?_
      refine ev_zret dX12_hasBuiltEdge_109 rfl rfl ?_
      exact ⟨by rw [b01_t (show PK n N 3 u v from trivial)], rfl⟩
    · refine ev_iload_n dX12_hasBuiltEdge_24 rfl ?_
      refine ev_tsIn 110 dX12_hasBuiltEdge_25 (by decide) (by decide) (show _ = some 85 from by decide) (by decide) ?_
      refine ev_iload dX12_hasBuiltEdge_110 rfl ?_
      refine ev_if_neN 119 dX12_hasBuiltEdge_112 (by decide) (by omega) (fun c112 => ?_) (fun c112 => ?_)
      · refine ev_iconst (nI 0) dX12_hasBuiltEdge_119 rfl ?_
        refine ev_zret dX12_hasBuiltEdge_120 rfl rfl ?_
        exact ⟨by rw [b01_f (show ¬ PK n N 4 u v by simp only [PK]; omega)], rfl⟩
      · refine ev_iconst (nI 1) dX12_hasBuiltEdge_115 rfl ?_
        refine ev_goto 120 dX12_hasBuiltEdge_116 (by decide) ?_
        refine ev_zret dX12_hasBuiltEdge_120 rfl rfl ?_
        exact ⟨by rw [b01_t (show PK n N 4 u v by simp only [PK]; omega)], rfl⟩
    · refine ev_iload_n dX12_hasBuiltEdge_24 rfl ?_
      refine ev_tsOut 121 dX12_hasBuiltEdge_25 (by decide) (by decide) ?_
      have q1 := b01_lt ((nb N u).testBit v = true)
      refine ev_aload_n dX12_hasBuiltEdge_121 rfl ?_
      refine ev_iload_n dX12_hasBuiltEdge_122 rfl ?_
      refine ev_iload_n dX12_hasBuiltEdge_123 rfl ?_
      refine ev_callV (cl_isEdge g (by omega) (by omega)) ok_X12_isEdge ml_X12_95 rfl rfl rfl rfl (Nat.le_of_ble_eq_true rfl) dX12_hasBuiltEdge_124 (kI ?_)
      refine ev_if_neN 134 dX12_hasBuiltEdge_127 (by decide) (by omega) (fun c127 => ?_) (fun c127 => ?_)
      · refine ev_iconst (nI 0) dX12_hasBuiltEdge_134 rfl ?_
        refine ev_zret dX12_hasBuiltEdge_135 rfl rfl ?_
        exact ⟨by rw [b01_f (show ¬ PK n N 5 u v from fun q => q (b01_1.mp (by omega)))], rfl⟩
      · refine ev_iconst (nI 1) dX12_hasBuiltEdge_130 rfl ?_
        refine ev_goto 135 dX12_hasBuiltEdge_131 (by decide) ?_
        refine ev_zret dX12_hasBuiltEdge_135 rfl rfl ?_
        exact ⟨by rw [b01_t (show PK n N 5 u v from b01_0.mp c127)], rfl⟩
  refine ev_start 2 (lv := [some (.ref 67), some (.int (nI kind)), some (.int (nI u)), some (.int (nI v)), none, none]) rfl (by decide) (Nat.le_of_ble_eq_true rfl) ?_
  refine ev_iload_n dX12_hasBuiltEdge_0 rfl ?_
  refine ev_iload_n dX12_hasBuiltEdge_1 rfl ?_
  refine ev_icmp_geN 9 dX12_hasBuiltEdge_2 (by decide) (by omega) (by omega) (fun c2 => ?_) (fun c2 => ?_)
  · refine ev_iload_n dX12_hasBuiltEdge_9 rfl ?_
    refine ev_ist4 dX12_hasBuiltEdge_10 (by decide) rfl ?_
    refine ev_iload_n dX12_hasBuiltEdge_12 rfl ?_
    refine ev_iload_n dX12_hasBuiltEdge_13 rfl ?_
    refine ev_icmp_geN 21 dX12_hasBuiltEdge_14 (by decide) (by omega) (by omega) (fun c14 => ?_) (fun c14 => ?_)
    · refine ev_iload_n dX12_hasBuiltEdge_21 rfl ?_
      refine ev_ist5 dX12_hasBuiltEdge_22 (by decide) rfl ?_
      exact key v u (by omega) (by omega)
    · omega
  · refine ev_iload_n dX12_hasBuiltEdge_5 rfl ?_
    refine ev_goto 10 dX12_hasBuiltEdge_6 (by decide) ?_
    refine ev_ist4 dX12_hasBuiltEdge_10 (by decide) rfl ?_
    refine ev_iload_n dX12_hasBuiltEdge_12 rfl ?_
    refine ev_iload_n dX12_hasBuiltEdge_13 rfl ?_
    refine ev_icmp_geN 21 dX12_hasBuiltEdge_14 (by decide) (by omega) (by omega) (fun c14 => ?_) (fun c14 => ?_)
    · omega
    · refine ev_iload_n dX12_hasBuiltEdge_17 rfl ?_
      refine ev_goto 22 dX12_hasBuiltEdge_18 (by decide) ?_
      refine ev_ist5 dX12_hasBuiltEdge_22 (by decide) rfl ?_
      exact key u v (by omega) (by omega)
theorem cl_buildM {n N kind X : Nat} {HL : List Nat} (g : gM h n N) (ok : gOK n N) (hh : hM h HL) (hl : HL.length ≤ 12) (hk : kind ≤ 5) (hc : kind = 1 → 3 ≤ n) (hX : MP X (PB n N kind)) : Cl G (d + 2) M_X12_build [.ref 67, .int (nI kind)] h (fun rv h' => rv = some (.int (nI (pcs 49 X / 2))) ∧ mod (fun k => k ≠ 68 ∧ k ≠ 69 ∧ k ≠ 70) (fun i => i ≠ 3 ∧ i ≠ 5) h h' ∧ gM h' n X ∧ hM h' (pushH HL N) ∧ h'.1 67 5 = nI 1) := by
  have hn := ok.2.1
  have q0 : b01 (rg (nI kind) 0 5) = 1 := b01_t ⟨kind, by omega, hk, rfl⟩
  have okX := PB_ok ok hX
  -- the last loop: built goes into adjacent
  have last : ∀ (k u : Nat) (h2 : MH), u + k = n → mod (fun k => k ≠ 68 ∧ k ≠ 69 ∧ k ≠ 70) (fun i => i ≠ 3) h h2 → hM h2 (pushH HL N) → (∀ w, w < n → h2.1 70 w = nI (nb X w)) → (∀ w, w < u → h2.1 68 w = nI (nb X w)) → (∀ w, u ≤ w → w < 7 → h2.1 68 w = nI (nb N w)) → ∀ x3 x4 : Option Value, Ev G (d + 2) M_X12_build 107 [some (.ref 67), some (.int (nI kind)), some (.int (nI u)), x3, x4] [] h2 (fun rv h' => rv = some (.int (nI (pcs 49 X / 2))) ∧ mod (fun k => k ≠ 68 ∧ k ≠ 69 ∧ k ≠ 70) (fun i => i ≠ 3 ∧ i ≠ 5) h h' ∧ gM h' n X ∧ hM h' (pushH HL N) ∧ h'.1 67 5 = nI 1) := by
    intro k
    induction k with
    | zero =>
      intro u h2 hu m2 hh2 e70 e1 e2 x3 x4
      obtain rfl : u = n := by omega
      have hn2 : h2.1 67 0 = nI u := by rw [m2.2 0 (by decide)]; exact g.1
      have g3 : gM (m_put h2 67 5 (nI 1)) u X := by
        refine ⟨by rw [mp_j (by decide)]; exact hn2, fun w hw => ?_⟩
        rw [mp_k (by decide)]
        by_cases c : w < u
        · exact e1 w c
        · rw [e2 w (by omega) hw, nb_z ok (by omega) hw, nb_z okX (by omega) hw]
      refine ev_iload_n dX12_build_107 rfl ?_
      refine ev_aload_n dX12_build_108 rfl ?_
      refine ev_getIv (hn2) fl_X12_9 rfl rfl dX12_build_109 ?_
      refine ev_icmp_geN 133 dX12_build_112 (by decide) (by omega) (by omega) (fun c112 => ?_) (fun c112 => ?_)
      · refine ev_aload_n dX12_build_133 rfl ?_
        refine ev_iconst (nI 1) dX12_build_134 rfl ?_
        refine ev_putI fp_X12_25 rfl rfl rfl rfl dX12_build_135 ?_
        refine ev_aload_n dX12_build_138 rfl ?_
        refine ev_callV (cl_edgeCountM g3 okX) ok_X12_edgeCount ml_X12_105 rfl rfl rfl rfl (Nat.le_of_ble_eq_true rfl) dX12_build_139 (kI ?_)
        refine ev_iret dX12_build_142 rfl ?_
        refine ⟨rfl, (m2.mono (fun _ z => z) (fun _ z => z.1)).tr (mod_f (by simp)), g3, ⟨?_, fun i hi w hw => ?_⟩, by rw [mp_eq]⟩
        · rw [mp_j (by decide)]; exact hh2.1
        · rw [mp_k (by decide)]; exact hh2.2 i hi w hw
      · omega
    | succ k ih =>
      intro u h2 hu m2 hh2 e70 e1 e2 x3 x4
      have hn2 : h2.1 67 0 = nI n := by rw [m2.2 0 (by decide)]; exact g.1
      refine ev_iload_n dX12_build_107 rfl ?_
      refine ev_aload_n dX12_build_108 rfl ?_
      refine ev_getIv (hn2) fl_X12_9 rfl rfl dX12_build_109 ?_
      refine ev_icmp_geN 133 dX12_build_112 (by decide) (by omega) (by omega) (fun c112 => ?_) (fun c112 => ?_)
      · omega
      · refine ev_aload_n dX12_build_115 rfl ?_
        refine ev_getR fl_X12_15 rfl rfl dX12_build_116 ?_
        refine ev_iload_n dX12_build_119 rfl ?_
        refine ev_aload_n dX12_build_120 rfl ?_
        refine ev_getR fl_X12_22 rfl rfl dX12_build_121 ?_
        refine ev_iload_n dX12_build_124 rfl ?_
        refine ev_ialdv (e70 u (by omega)) rfl dX12_build_125 (by omega) (by omega) ?_
        refine ev_iastN rfl dX12_build_126 (by omega) (by omega) ?_
        refine ev_inc2N dX12_build_127 (by decide) rfl ?_
        refine ev_goto 107 dX12_build_130 (by decide) ?_
        refine ih (u + 1) _ (by omega) (m2.tr (mod_p (by simp) (by decide))) ⟨?_, fun i hi w hw => ?_⟩ (fun w hw => ?_) (fun w hw => ?_) (fun w h1 h2' => ?_) _ _
        · rw [mp_k (by decide)]; exact hh2.1
        · rw [mp_k (by decide)]; exact hh2.2 i hi w hw
        · rw [mp_k (by decide)]; exact e70 w hw
        · by_cases e : w = u
          · subst e; rw [mp_eq]
          · rw [mp_j e]; exact e1 w (by omega)
        · rw [mp_j (by omega)]; exact e2 w (by omega) h2'
  -- the rows
  have rows : ∀ (k u : Nat) (h2 : MH), u + k = n → mod (fun k => k ≠ 69 ∧ k ≠ 70) (fun i => i ≠ 3) h h2 → hM h2 (pushH HL N) → (∀ w, w < u → h2.1 70 w = nI (nb X w)) → ∀ x3 x4 : Option Value, Ev G (d + 2) M_X12_build 36 [some (.ref 67), some (.int (nI kind)), some (.int (nI u)), x3, x4] [] h2 (fun rv h' => rv = some (.int (nI (pcs 49 X / 2))) ∧ mod (fun k => k ≠ 68 ∧ k ≠ 69 ∧ k ≠ 70) (fun i => i ≠ 3 ∧ i ≠ 5) h h' ∧ gM h' n X ∧ hM h' (pushH HL N) ∧ h'.1 67 5 = nI 1) := by
    intro k
    induction k with
    | zero =>
      intro u h2 hu m2 hh2 e70 x3 x4
      obtain rfl : u = n := by omega
      have hn2 : h2.1 67 0 = nI u := by rw [m2.2 0 (by decide)]; exact g.1
      refine ev_iload_n dX12_build_36 rfl ?_
      refine ev_aload_n dX12_build_37 rfl ?_
      refine ev_getIv (hn2) fl_X12_9 rfl rfl dX12_build_38 ?_
      refine ev_icmp_geN 105 dX12_build_41 (by decide) (by omega) (by omega) (fun c41 => ?_) (fun c41 => ?_)
      · refine ev_iconst (nI 0) dX12_build_105 rfl ?_
        refine ev_ist2 dX12_build_106 (by decide) rfl ?_
        exact last u 0 h2 (by omega) (m2.mono (fun _ z => ⟨z.2.1, z.2.2⟩) (fun _ z => z)) hh2 e70 (fun w hw => absurd hw (by omega)) (fun w _ hw => by rw [(m2.1 68 (by decide) (by decide)).1]; exact g.2 w hw) _ _
      · omega
    | succ k ih =>
      intro u h2 hu m2 hh2 e70 x3 x4
      have hn2 : h2.1 67 0 = nI n := by rw [m2.2 0 (by decide)]; exact g.1
      have g2 : gM h2 n N := ⟨hn2, fun w hw => by rw [(m2.1 68 (by decide) (by decide)).1]; exact g.2 w hw⟩
      have inner : ∀ (j v r : Nat), v + j = n → r < 2 ^ v → (∀ w, w < v → (r.testBit w = true ↔ PB n N kind u w)) → Ev G (d + 2) M_X12_build 49 [some (.ref 67), some (.int (nI kind)), some (.int (nI u)), some (.int (nI r)), some (.int (nI v))] [] h2 (fun rv h' => rv = some (.int (nI (pcs 49 X / 2))) ∧ mod (fun k => k ≠ 68 ∧ k ≠ 69 ∧ k ≠ 70) (fun i => i ≠ 3 ∧ i ≠ 5) h h' ∧ gM h' n X ∧ hM h' (pushH HL N) ∧ h'.1 67 5 = nI 1) := by
        intro j
        induction j with
        | zero =>
          intro v r hv hr hb
          obtain rfl : v = n := by omega
          have er : r = nb X u := by
            refine set_ext (k := v) hr (okX.nb_n (by omega)) (fun w hw => ?_)
            have a := hb w hw
            have b := hX.2 u w (by omega) (by omega)
            cases h1 : r.testBit w with
            | true => exact (b.mpr (a.mp h1)).symm
            | false =>
              cases h2 : (nb X u).testBit w with
              | false => rfl
              | true => rw [a.mpr (b.mp h2)] at h1; cases h1
          refine ev_iload dX12_build_49 rfl ?_
          refine ev_aload_n dX12_build_51 rfl ?_
          refine ev_getIv (hn2) fl_X12_9 rfl rfl dX12_build_52 ?_
          refine ev_icmp_geN 92 dX12_build_55 (by decide) (by omega) (by omega) (fun c55 => ?_) (fun c55 => ?_)
          · refine ev_aload_n dX12_build_92 rfl ?_
            refine ev_getR fl_X12_22 rfl rfl dX12_build_93 ?_
            refine ev_iload_n dX12_build_96 rfl ?_
            refine ev_iload_n dX12_build_97 rfl ?_
            refine ev_iastN rfl dX12_build_98 (by omega) (by omega) ?_
            refine ev_inc2N dX12_build_99 (by decide) rfl ?_
            refine ev_goto 36 dX12_build_102 (by decide) ?_
            refine ih (u + 1) _ (by omega) (m2.tr (mod_p (by simp) (by decide))) ⟨?_, fun i hi w hw => ?_⟩ (fun w hw => ?_) _ _
            · rw [mp_k (by decide)]; exact hh2.1
            · rw [mp_k (by decide)]; exact hh2.2 i hi w hw
            · by_cases e : w = u
              · subst e; rw [mp_eq, er]
              · rw [mp_j e]; exact e70 w (by omega)
          · omega
        | succ j ihj =>
          intro v r hv hr hb
          have e1 : 1 * 2 ^ v = 2 ^ v := Nat.one_mul _
          have p1 : 2 ^ v < 2 ^ 7 := pow_lt (by omega)
          have ps : 2 ^ (v + 1) = 2 * 2 ^ v := by rw [Nat.pow_succ]; omega
          have q1 := b01_lt (PK n N kind u v)
          have nxt0 : (¬ PB n N kind u v) → (∀ w, w < v + 1 → (r.testBit w = true ↔ PB n N kind u w)) := by
            intro hz w hw
            by_cases e : w = v
            · subst e; rw [bit_out hr (Nat.le_refl _)]; simp [hz]
            · exact hb w (by omega)
          have nxt1 : PB n N kind u v → (∀ w, w < v + 1 → ((r ||| 2 ^ v).testBit w = true ↔ PB n N kind u w)) := by
            intro hz w hw
            rw [Nat.testBit_or, pow_bit]
            by_cases e : w = v
            · subst e; simp [hz]
            · simp [Ne.symm e]; exact hb w (by omega)
          refine ev_iload dX12_build_49 rfl ?_
          refine ev_aload_n dX12_build_51 rfl ?_
          refine ev_getIv (hn2) fl_X12_9 rfl rfl dX12_build_52 ?_
          refine ev_icmp_geN 92 dX12_build_55 (by decide) (by omega) (by omega) (fun c55 => ?_) (fun c55 => ?_)
          · omega
          · refine ev_iload_n dX12_build_58 rfl ?_
            refine ev_iload_n dX12_build_59 rfl ?_
            refine ev_iload dX12_build_60 rfl ?_
            refine ev_icmp_eqN 83 dX12_build_62 (by decide) (by omega) (by omega) (fun c62 => ?_) (fun c62 => ?_)
            · refine ev_iconst (nI 0) dX12_build_83 rfl ?_
              refine ev_iorN dX12_build_84 ?_
              refine ev_ist3 dX12_build_85 (by decide) rfl ?_
              refine ev_inc4N dX12_build_86 (by decide) rfl ?_
              refine ev_goto 49 dX12_build_89 (by decide) ?_
              rw [Nat.or_zero]
              exact ihj (v + 1) r (by omega) (by omega) (nxt0 (fun q => q.2.2.1 c62))
            · refine ev_aload_n dX12_build_65 rfl ?_
              refine ev_iload_n dX12_build_66 rfl ?_
              refine ev_iload_n dX12_build_67 rfl ?_
              refine ev_iload dX12_build_68 rfl ?_
              refine ev_callV (cl_hasBuiltEdge g2 ok hk (by omega) (by omega) c62) ok_X12_hasBuiltEdge ml_X12_101 rfl rfl rfl rfl (Nat.le_of_ble_eq_true rfl) dX12_build_70 (kI ?_)
              refine ev_if_eqN 83 dX12_build_73 (by decide) (by omega) (fun c73 => ?_) (fun c73 => ?_)
              · refine ev_iconst (nI 0) dX12_build_83 rfl ?_
                refine ev_iorN dX12_build_84 ?_
                refine ev_ist3 dX12_build_85 (by decide) rfl ?_
                refine ev_inc4N dX12_build_86 (by decide) rfl ?_
                refine ev_goto 49 dX12_build_89 (by decide) ?_
                rw [Nat.or_zero]
                exact ihj (v + 1) r (by omega) (by omega) (nxt0 (fun q => b01_0.mp c73 q.2.2.2))
              · refine ev_iconst (nI 1) dX12_build_76 rfl ?_
                refine ev_iload dX12_build_77 rfl ?_
                refine ev_ishlN dX12_build_79 (by omega) (by omega) ?_
                rw [e1]
                refine ev_goto 84 dX12_build_80 (by decide) ?_
                refine ev_iorN dX12_build_84 ?_
                refine ev_ist3 dX12_build_85 (by decide) rfl ?_
                refine ev_inc4N dX12_build_86 (by decide) rfl ?_
                refine ev_goto 49 dX12_build_89 (by decide) ?_
                exact ihj (v + 1) _ (by omega) (Nat.or_lt_two_pow (by omega) (by omega)) (nxt1 ⟨by omega, by omega, c62, b01_1.mp (by omega)⟩)
      refine ev_iload_n dX12_build_36 rfl ?_
      refine ev_aload_n dX12_build_37 rfl ?_
      refine ev_getIv (hn2) fl_X12_9 rfl rfl dX12_build_38 ?_
      refine ev_icmp_geN 105 dX12_build_41 (by decide) (by omega) (by omega) (fun c41 => ?_) (fun c41 => ?_)
      · omega
      · refine ev_iconst (nI 0) dX12_build_44 rfl ?_
        refine ev_ist3 dX12_build_45 (by decide) rfl ?_
        refine ev_iconst (nI 0) dX12_build_46 rfl ?_
        refine ev_ist4 dX12_build_47 (by decide) rfl ?_
        exact inner n 0 0 (by omega) (by decide) (fun w hw => absurd hw (by omega))
  have start : Ev G (d + 2) M_X12_build 30 [some (.ref 67), some (.int (nI kind)), none, none, none] [] h (fun rv h' => rv = some (.int (nI (pcs 49 X / 2))) ∧ mod (fun k => k ≠ 68 ∧ k ≠ 69 ∧ k ≠ 70) (fun i => i ≠ 3 ∧ i ≠ 5) h h' ∧ gM h' n X ∧ hM h' (pushH HL N) ∧ h'.1 67 5 = nI 1) := by
    refine ev_aload_n dX12_build_30 rfl ?_
    refine ev_callV (cl_recordChangeM g hh hl) ok_X12_recordChange ml_X12_92 rfl rfl rfl rfl (Nat.le_of_ble_eq_true rfl) dX12_build_31 ?_
    rintro rv h1 ⟨rfl, m1, hh1⟩
    refine ev_iconst (nI 0) dX12_build_34 rfl ?_
    refine ev_ist2 dX12_build_35 (by decide) rfl ?_
    exact rows n 0 h1 (by omega) (m1.mono (fun _ z => z.1) (fun _ z => z)) hh1 (fun w hw => absurd hw (by omega)) _ _
  refine ev_start 3 (lv := [some (.ref 67), some (.int (nI kind)), none, none, none]) rfl (by decide) (Nat.le_of_ble_eq_true rfl) ?_
  refine ev_iload_n dX12_build_0 rfl ?_
  refine ev_i2l dX12_build_1 rfl ?_
  refine ev_lconst (lN 0) dX12_build_2 rfl ?_
  refine ev_ldc2 (lN 5) dX12_build_3 kl_X12_99 ?_
  refine ev_callS (cl_btw (a := 0) (b := 5) rfl rfl (by decide) (by decide)) ok_X12_isBetween ml_X12_79 rfl rfl (Nat.le_of_ble_eq_true rfl) dX12_build_6 (kI ?_)
  rw [q0]
  refine ev_if_neN 14 dX12_build_9 (by decide) (by omega) (fun c9 => ?_) (fun c9 => ?_)
  · refine ev_iload_n dX12_build_14 rfl ?_
    refine ev_iconst (nI 1) dX12_build_15 rfl ?_
    refine ev_icmp_neN 30 dX12_build_16 (by decide) (by omega) (by omega) (fun c16 => ?_) (fun c16 => ?_)
    · exact start
    · refine ev_aload_n dX12_build_19 rfl ?_
      refine ev_getIv (g.1) fl_X12_9 rfl rfl dX12_build_20 ?_
      refine ev_iconst (nI 3) dX12_build_23 rfl ?_
      refine ev_icmp_geN 30 dX12_build_24 (by decide) (by omega) (by omega) (fun c24 => ?_) (fun c24 => ?_)
      · exact start
      · omega
  · exact absurd c9 (by decide)
theorem cl_buildM_bad {x : Int32} (hx : ¬ rg x 0 5) : Cl G (d + 1) M_X12_build [.ref 67, .int x] h (qI (-1) h) := by
  have q1 : b01 (rg x 0 5) = 0 := b01_f hx
  refine ev_start 3 (lv := [some (.ref 67), some (.int x), none, none, none]) rfl (by decide) (Nat.le_of_ble_eq_true rfl) ?_
  refine ev_iload_n dX12_build_0 rfl ?_
  refine ev_i2l dX12_build_1 rfl ?_
  refine ev_lconst (lN 0) dX12_build_2 rfl ?_
  refine ev_ldc2 (lN 5) dX12_build_3 kl_X12_99 ?_
  refine ev_callS (cl_btw (a := 0) (b := 5) rfl rfl (by decide) (by decide)) ok_X12_isBetween ml_X12_79 rfl rfl (Nat.le_of_ble_eq_true rfl) dX12_build_6 (kI ?_)
  rw [q1]
  refine ev_if_neN 14 dX12_build_9 (by decide) (by omega) (fun c9 => ?_) (fun c9 => ?_)
  · exact absurd rfl c9
  · refine ev_iconst (-1) dX12_build_12 rfl ?_
    refine ev_iret dX12_build_13 rfl ?_
    exact ⟨by with_reducible rfl, rfl⟩
theorem cl_buildM_np {n N : Nat} (g : gM h n N) (hn : n < 3) : Cl G (d + 1) M_X12_build [.ref 67, .int (nI 1)] h (qI (-5) h) := by
  have q0 : b01 (rg (nI 1) 0 5) = 1 := b01_t ⟨1, by omega, by omega, rfl⟩
  refine ev_start 3 (lv := [some (.ref 67), some (.int (nI 1)), none, none, none]) rfl (by decide) (Nat.le_of_ble_eq_true rfl) ?_
  refine ev_iload_n dX12_build_0 rfl ?_
  refine ev_i2l dX12_build_1 rfl ?_
  refine ev_lconst (lN 0) dX12_build_2 rfl ?_
  refine ev_ldc2 (lN 5) dX12_build_3 kl_X12_99 ?_
  refine ev_callS (cl_btw (a := 0) (b := 5) rfl rfl (by decide) (by decide)) ok_X12_isBetween ml_X12_79 rfl rfl (Nat.le_of_ble_eq_true rfl) dX12_build_6 (kI ?_)
  rw [q0]
  refine ev_if_neN 14 dX12_build_9 (by decide) (by omega) (fun c9 => ?_) (fun c9 => ?_)
  · refine ev_iload_n dX12_build_14 rfl ?_
    refine ev_iconst (nI 1) dX12_build_15 rfl ?_
    refine ev_icmp_neN 30 dX12_build_16 (by decide) (by omega) (by omega) (fun c16 => ?_) (fun c16 => ?_)
    · exact absurd rfl c16
    · refine ev_aload_n dX12_build_19 rfl ?_
      refine ev_getIv (g.1) fl_X12_9 rfl rfl dX12_build_20 ?_
      refine ev_iconst (nI 3) dX12_build_23 rfl ?_
      refine ev_icmp_geN 30 dX12_build_24 (by decide) (by omega) (by omega) (fun c24 => ?_) (fun c24 => ?_)
      · omega
      · refine ev_bipush (-5) dX12_build_27 rfl ?_
        refine ev_iret dX12_build_29 rfl ?_
        exact ⟨by with_reducible rfl, rfl⟩
  · exact absurd c9 (by decide)
end BUILD3

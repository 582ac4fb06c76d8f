section PAIR2
variable {G : MG} {d : Nat} {h : MH} {a : AS}
theorem gOK_0 {j : Nat} (h1 : 1 ≤ j) (h2 : j ≤ 7) : gOK j 0 := ⟨h1, h2, by decide, fun u v _ _ hb => by
  unfold nb at hb
  rw [Nat.zero_div, Nat.zero_mod, Nat.zero_testBit] at hb
  exact absurd hb (by decide)⟩
theorem gOK_tog {n N u v : Nat} (ok : gOK n N) (hu : u < n) (hv : v < n) (huv : u ≠ v) : gOK n (N ^^^ eb u v) := by
  have n7 := ok.2.1
  have key : ∀ a b, a < 7 → b < 7 → (nb (N ^^^ eb u v) a).testBit b = ((nb N a).testBit b ^^ (decide (a = u ∧ b = v) || decide (a = v ∧ b = u))) := by
    intro a b ha hb
    rw [nb_tog (by omega) (by omega) ha huv]
    by_cases c1 : a = u
    · rw [if_pos c1, c1, Nat.testBit_xor, pow_bit]
      by_cases e : v = b
      · simp [e]
      · have e2 : ¬ b = v := fun z => e z.symm
        simp [e, e2, huv]
    · rw [if_neg c1]
      by_cases c2 : a = v
      · rw [if_pos c2, c2, Nat.testBit_xor, pow_bit]
        have e3 : ¬ v = u := fun z => huv z.symm
        by_cases e : u = b
        · subst e; simp [e3]
        · have e2 : ¬ b = u := fun z => e z.symm
          simp [e, e2, e3]
      · rw [if_neg c2]; simp [c1, c2]
  refine ⟨ok.1, ok.2.1, Nat.xor_lt_two_pow ok.2.2.1 (eb_lt (by omega) (by omega)), fun a b ha hb hbit => ?_⟩
  rw [key a b ha hb] at hbit
  rw [key b a hb ha]
  by_cases c : a = u ∧ b = v
  · obtain ⟨rfl, rfl⟩ := c
    refine ⟨hu, hv, huv, ?_⟩
    rw [ok.sym hb ha]
    have e3 : ¬ b = a := fun z => huv z.symm
    simp [huv, e3] at hbit ⊢
    exact hbit
  · by_cases c' : a = v ∧ b = u
    · obtain ⟨rfl, rfl⟩ := c'
      refine ⟨hv, hu, fun z => huv z.symm, ?_⟩
      rw [ok.sym hb ha]
      have e3 : ¬ a = b := fun z => huv z.symm
      simp [huv, e3] at hbit ⊢
      exact hbit
    · have d1 : decide (a = u ∧ b = v) = false := decide_eq_false c
      have d2 : decide (a = v ∧ b = u) = false := decide_eq_false c'
      have d3 : decide (b = u ∧ a = v) = false := decide_eq_false (fun z => c' ⟨z.2, z.1⟩)
      have d4 : decide (b = v ∧ a = u) = false := decide_eq_false (fun z => c ⟨z.2, z.1⟩)
      rw [d1, d2] at hbit
      rw [d3, d4]
      simp at hbit ⊢
      exact ok.2.2.2 a b ha hb hbit
theorem pushH_len {HL : List Nat} {N : Nat} (hl : HL.length ≤ 12) : (pushH HL N).length ≤ 12 := by
  unfold pushH
  by_cases c : HL.length = 12
  · rw [if_pos c, List.length_append, List.length_tail]; simp; omega
  · rw [if_neg c, List.length_append]; simp; omega
theorem pushH_mem {HL : List Nat} {N K : Nat} (hk : K ∈ pushH HL N) : K ∈ HL ∨ K = N := by
  unfold pushH at hk
  rw [List.mem_append] at hk
  rcases hk with z | z
  · by_cases c : HL.length = 12
    · rw [if_pos c] at z; exact Or.inl (List.mem_of_mem_tail z)
    · rw [if_neg c] at z; exact Or.inl z
  · exact Or.inr (by simpa using z)
theorem pr_setVertexCount {x : Int32} (ok : OKA a) (ci : CI h a) (ri : RI h a) : PrI G (d + 12) M_X11_setVertexCount M_X12_setVertexCount [.int x] h := by
  by_cases c : rg x 1 7
  · obtain ⟨j, h1, h2, rfl⟩ := c
    exact prI_up (a' := AS.mk j 0 [] a.T a.L a.I a.S a.P) ri (cl_mono (fun rv h1 q => ⟨q.1, CI_G ci (q.2.1.mono (fun k hk => ⟨hk.1, hk.2.1⟩)) q.2.2.1 q.2.2.2.1 q.2.2.2.2⟩) (cl_setVertexCountC ci.g h1 h2)) (fun h1 r1 => cl_mono (fun rv h2 p => ⟨p.1, RI_G r1 (p.2.1.mono (fun k hk => hk.1) (fun j hj => hj)) p.2.2.1 p.2.2.2.1 p.2.2.2.2⟩) (cl_setVertexCountM r1.g (by omega) h2)) ⟨gOK_0 h1 h2, Nat.zero_le _, fun K hK => absurd hK (List.not_mem_nil), ok.t, ok.l, ok.i, ok.s, ok.p⟩
  · exact prI_mk ok ri (cl_mono (fun rv h1 q => qI_ci q ci) (cl_setVertexCountC_bad c)) (fun h1 r1 => cl_mono (fun rv h2 p => qI_ri p r1) (cl_setVertexCountM_bad c))
theorem pr_toggleEdge {x y : Int32} (ok : OKA a) (ci : CI h a) (ri : RI h a) : PrI G (d + 12) M_X11_toggleEdge M_X12_toggleEdge [.int x, .int y] h := by
  by_cases c : inR x a.n ∧ inR y a.n ∧ x ≠ y
  · obtain ⟨⟨u, hu, rfl⟩, ⟨v, hv, rfl⟩, huv⟩ := c
    have huv' : u ≠ v := fun z => huv (by rw [z])
    exact prI_up (a' := AS.mk a.n (a.N ^^^ eb u v) (pushH a.HL a.N) a.T a.L a.I a.S a.P) ri (cl_mono (fun rv h1 q => ⟨q.1, CI_G ci q.2.1 q.2.2.1 q.2.2.2.1 q.2.2.2.2⟩) (cl_toggleEdgeC ci.g ok.g ci.hh ok.hl hu hv huv')) (fun h1 r1 => cl_mono (fun rv h2 p => ⟨p.1, RI_G r1 (p.2.1.mono (fun k hk => ⟨hk.1, hk.2.1⟩) (fun j hj => hj.2)) p.2.2.1 p.2.2.2.1 p.2.2.2.2⟩) (cl_toggleEdgeM r1.g ok.g r1.hh ok.hl hu hv huv')) ⟨gOK_tog ok.g hu hv huv', pushH_len ok.hl, fun K hK => (pushH_mem hK).elim (ok.hg K) (fun e => by rw [e]; exact ok.g), ok.t, ok.l, ok.i, ok.s, ok.p⟩
  · exact prI_mk ok ri (cl_mono (fun rv h1 q => qI_ci q ci) (cl_toggleEdgeC_bad ci.g ok.g.2.1 c)) (fun h1 r1 => cl_mono (fun rv h2 p => qI_ri p r1) (cl_toggleEdgeM_bad r1.g ok.g.1 ok.g.2.1 c))
theorem pr_build {x : Int32} (ok : OKA a) (ci : CI h a) (ri : RI h a) : PrI G (d + 12) M_X11_build M_X12_build [.int x] h := by
  by_cases c : rg x 0 5
  · obtain ⟨j, h1, h2, rfl⟩ := c
    by_cases e : j = 1 ∧ a.n < 3
    · obtain ⟨rfl, hn⟩ := e
      exact prI_mk ok ri (cl_mono (fun rv h1 q => qI_ci q ci) (cl_buildC_np ci.g hn)) (fun h1 r1 => cl_mono (fun rv h2 p => qI_ri p r1) (cl_buildM_np r1.g hn))
    · have hc : j = 1 → 3 ≤ a.n := fun z => by
        have : ¬ a.n < 3 := fun w => e ⟨z, w⟩
        omega
      refine cl_mono (fun rv h1 q => ?_) (cl_buildC ci.g ok.g ci.hh ok.hl h2 hc)
      obtain ⟨X, hX, q1, q2, q3, q4, q5⟩ := q
      have ci1 := CI_G ci q2 q3 q4 q5
      refine ⟨_, q1, cl_mono (fun rv h2 p => ?_) (cl_buildM (RI_hi ri ci1.1).g ok.g (RI_hi ri ci1.1).hh ok.hl h2 hc hX)⟩
      have ri2 := RI_G (RI_hi ri ci1.1) (p.2.1.mono (fun k hk => hk) (fun j hj => hj.2)) p.2.2.1 p.2.2.2.1 p.2.2.2.2
      exact ⟨p.1, AS.mk a.n X (pushH a.HL a.N) a.T a.L a.I a.S a.P, ⟨PB_ok ok.g hX, pushH_len ok.hl, fun K hK => (pushH_mem hK).elim (ok.hg K) (fun e => by rw [e]; exact ok.g), ok.t, ok.l, ok.i, ok.s, ok.p⟩, CI_lo ci1.2 ri2.1, ri2.2⟩
  · exact prI_mk ok ri (cl_mono (fun rv h1 q => qI_ci q ci) (cl_buildC_bad c)) (fun h1 r1 => cl_mono (fun rv h2 p => qI_ri p r1) (cl_buildM_bad c))
theorem pr_revertChange (ok : OKA a) (ci : CI h a) (ri : RI h a) : PrI G (d + 12) M_X11_revertChange M_X12_revertChange [] h := by
  rcases List.eq_nil_or_concat a.HL with e | ⟨HL, K, e⟩
  · have c1 := ci.hh
    rw [e] at c1
    exact prI_mk ok ri (cl_mono (fun rv h1 q => qI_ci q ci) (cl_revertChangeC_bad c1)) (fun h1 r1 => cl_mono (fun rv h2 p => qI_ri p r1) (cl_revertChangeM_bad (by rw [← e]; exact r1.hh)))
  · have e' : a.HL = HL ++ [K] := by rw [e]; simp
    have c1 := ci.hh
    rw [e'] at c1
    have hl := ok.hl
    rw [e', List.length_append] at hl
    have hl' : HL.length < 12 := by simp at hl; omega
    have hg := ok.hg
    rw [e'] at hg
    exact prI_up (a' := AS.mk a.n K HL a.T a.L a.I a.S a.P) ri (cl_mono (fun rv h1 q => ⟨q.1, CI_G ci q.2.1 q.2.2.1 q.2.2.2.1 q.2.2.2.2⟩) (cl_revertChangeC ci.g c1 hl')) (fun h1 r1 => cl_mono (fun rv h2 p => ⟨p.1, RI_G r1 (p.2.1.mono (fun k hk => hk.1) (fun j hj => hj.2)) p.2.2.1 p.2.2.2.1 p.2.2.2.2⟩) (cl_revertChangeM r1.g (by rw [← e']; exact r1.hh) hl')) ⟨hg K (by simp), Nat.le_of_lt hl', fun K' hK' => hg K' (List.mem_append_left _ hK'), ok.t, ok.l, ok.i, ok.s, ok.p⟩
theorem pr_restoreSnapshot (ok : OKA a) (ci : CI h a) (ri : RI h a) : PrI G (d + 12) M_X11_restoreSnapshot M_X12_restoreSnapshot [] h := by
  have p1 := ci.p
  have o1 := ok.p
  cases e : a.P with
  | none =>
    rw [e] at p1
    exact prI_mk ok ri (cl_mono (fun rv h1 q => qI_ci q ci) (cl_restoreSnapshotC_no p1)) (fun h1 r1 => cl_mono (fun rv h2 p => qI_ri p r1) (cl_restoreSnapshotM_no (by rw [← e]; exact r1.p)))
  | some s =>
    rw [e] at p1 o1
    have o2 : okT s.2.2.1 := by
      obtain ⟨_, _, R, eT⟩ := o1
      have := ok.t
      rw [eT] at this
      exact okT_app this
    exact prI_up (a' := AS.mk s.1 s.2.1 [] s.2.2.1 s.2.2.2 a.I a.S a.P) ri (cl_mono (fun rv h1 q => ⟨q.1, CI_R ci q.2.1 q.2.2.1 q.2.2.2.2.2.2 q.2.2.2.1 q.2.2.2.2.1 q.2.2.2.2.2.1⟩) (cl_restoreSnapshotC p1 o1 ci.t)) (fun h1 r1 => cl_mono (fun rv h2 p => ⟨p.1, RI_R r1 p.2.1 p.2.2.1 p.2.2.2.2.2.2 p.2.2.2.1 p.2.2.2.2.1 p.2.2.2.2.2.1⟩) (cl_restoreSnapshotM (by rw [← e]; exact r1.p) o1 ok.t)) ⟨o1.1, Nat.zero_le _, fun K hK => absurd hK (List.not_mem_nil), o2, o1.2.1, ok.i, ok.s, by
      show okN s.2.2.1 a.P
      rw [e]
      exact ⟨o1.1, o1.2.1, [], (List.append_nil _).symm⟩⟩
end PAIR2

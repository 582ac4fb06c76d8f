section CLMONO
variable {G : MG} {d : Nat} {h : MH}
/-- a contract may be weakened -/
theorem cl_mono {M : MI} {av : List Value} {Q Q' : Option Value → MH → Prop} (hq : ∀ rv h1, Q rv h1 → Q' rv h1) (k : Cl G d M av h Q) : Cl G d M av h Q' := by
  intro sz p e a1 a2 a3 s m args below b1 b2 b3 b4
  obtain ⟨n, o, c1, c2, c3, ⟨⟨rv, h1, e1, q1, r1⟩, e2⟩, c5⟩ := k sz p e a1 a2 a3 s m args below b1 b2 b3 b4
  exact ⟨n, o, c1, c2, c3, ⟨⟨rv, h1, e1, hq rv h1 q1, r1⟩, e2⟩, c5⟩
end CLMONO

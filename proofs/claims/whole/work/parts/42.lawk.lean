section LAWK
variable {E : EE} {md md' : MD} {mc ms : Nat} {pc : Nat} {L : List (Option CV)} {S : List CV} {w : CW} {k n : Nat} {X Y : Type} {t : (Option CV → CW → Prop) → X → Prop} {sh : List (Nat × Nat)} {ex : Bool} {R : RM} {M : MM}
theorem GG.widen {K : Option CV → CW → Prop} {k' n' : Nat} (h1 : k ≤ k') (h2 : n ≤ n') (g : GG E md mc ms K pc L S w k' n') : GG E md mc ms K pc L S w k n := by
  intro p e s m args below meth c H locs ls cx rc hS hb hl ol os
  exact W.widen h1 h2 (g p e s m args below meth c H locs ls cx rc hS hb hl ol os)
theorem S_loopK {step : Y → Option (Y ⊕ X)} (fl : Y → List (Option CV)) (fs : Y → List CV) (fw : Y → CW) (kf nf : Y → Nat)
    (h : ∀ x, Seg E md mc ms (step x) (fun K z => match z with
      | .inl x' => GG E md mc ms K pc (fl x') (fs x') (fw x') (kf x') (nf x')
      | .inr y => t K y) pc (fl x) (fs x) (fw x) (kf x) (nf x)) : ∀ (N : Nat) (x : Y), Seg E md mc ms (lp step N x) t pc (fl x) (fs x) (fw x) (kf x) (nf x)
  | 0, x => fun K y hy ht => by cases hy
  | N + 1, x => by
    intro K y hy ht
    rw [lp] at hy
    obtain ⟨z, hz, hz2⟩ := Option.bind_eq_some_iff.mp hy
    rcases z with x' | y'
    · exact h x K _ hz (S_loopK fl fs fw kf nf h N x' K y hz2 ht)
    · cases hz2
      exact h x K _ hz ht
end LAWK

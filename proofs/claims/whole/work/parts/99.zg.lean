section FORM
variable {M N : MM} {n t g : Nat} {Ko Vo Ao Bo : List Int}
/-- what is written before a formula -/
def WB (M N : MM) (g : Nat) (Ko Vo Ao Bo : List Int) : Prop := (M (g + 12) 6 = (Ko.length : Int) ∧ M (g + 12) 7 = (Ko.length : Int) ∧ Ko.length ≤ 64) ∧ (STK (M (g + 13)) Ko ∧ STK (M (g + 14)) Vo ∧ Vo.length = Ko.length) ∧ (N 88 21 = (Ko.length : Int) ∧ N 88 48 = (Ko.length : Int)) ∧ (STK (fun i => N 109 (64 + i)) (Ko.map mk)) ∧ (STK (fun i => N 110 (64 + i)) Ao ∧ Ao.length = Ko.length) ∧ (STK (fun i => N 111 (64 + i)) Bo ∧ Bo.length = Ko.length)
def cS (M : MM) : MM := upM (upM (upM (upM (upM M 5 3 0) 5 4 0) 7 0 0) 5 5 1) 5 6 1
def nS (N : MM) : MM := upM (upM (upM (upM (upM N 88 45 0) 88 46 0) 88 47 0) 88 49 1) 88 50 1
theorem cS_f : FF1 g (cS M) M := by
  unfold cS
  exact ((((FF1.rf.up (by omega)).up (by omega)).up (by omega)).up (by omega)).up (by omega)
theorem nS_f : FN1 (nS N) N := by
  unfold nS
  exact ((((FN1.rf.up (by omega)).up (by omega)).up (by omega)).up (by omega)).up (by omega)
theorem FX_0 (hg : g = 8 ∨ g = 31) (w : WB M N g Ko Vo Ao Bo) : FX (cS M) (nS N) g [] [] [] [] [] Ko Vo Ao Bo := by
  obtain ⟨⟨a1, a2, a3⟩, ⟨b1, b2, b3⟩, ⟨c1, c2⟩, d1, ⟨e1, e2⟩, f1, f2⟩ := w
  have m1 : ∀ a j, a = g + 12 ∨ a = g + 13 ∨ a = g + 14 → cS M a j = M a j := fun a j h => by
    unfold cS
    rw [up_na (by omega), up_na (by omega), up_na (by omega), up_na (by omega), up_na (by omega)]
  have n1 : ∀ a j, a ≠ 88 ∨ j = 21 ∨ j = 48 → nS N a j = N a j := fun a j h => by
    unfold nS
    rw [upM_ne a j (by omega), upM_ne a j (by omega), upM_ne a j (by omega), upM_ne a j (by omega), upM_ne a j (by omega)]
  refine ⟨⟨?_, trivial, ?_, ?_, ?_, b3⟩, ⟨⟨?_, trivial⟩, ⟨?_, trivial⟩, ?_, ⟨?_, ?_⟩, ⟨?_, e2⟩, ?_, f2⟩, ⟨trivial, trivial⟩, ⟨?_, ?_, by decide⟩, ⟨?_, trivial⟩, ⟨?_, ?_, ?_⟩, Or.inr ⟨?_, rfl, fun _ => by decide⟩, ⟨?_, ?_, ?_⟩, trivial⟩
  · unfold cS
    rw [up_ni (by decide), up_ni (by decide), up_na (by decide), up_ni (by decide), upM_eq]; rfl
  · rw [m1 _ _ (by omega)]; exact a1
  · exact b1.cg (fun j _ => m1 _ _ (by omega))
  · exact b2.cg (fun j _ => m1 _ _ (by omega))
  · unfold nS
    rw [up_ni (by decide), up_ni (by decide), up_ni (by decide), up_ni (by decide), upM_eq]; rfl
  · unfold nS
    rw [up_ni (by decide), up_ni (by decide), up_ni (by decide), upM_eq]; rfl
  · rw [n1 _ _ (by omega)]; exact c1
  · exact d1.cg (fun j _ => n1 109 _ (by omega))
  · show (Ko.map mk).length = Ko.length
    rw [List.length_map]
  · exact e1.cg (fun j _ => n1 110 _ (by omega))
  · exact f1.cg (fun j _ => n1 111 _ (by omega))
  · unfold cS
    rw [up_ni (by decide), up_ni (by decide), up_na (by decide), upM_eq]; rfl
  · unfold nS
    rw [up_ni (by decide), up_ni (by decide), upM_eq]; rfl
  · show cS M 7 0 = 0
    unfold cS
    rw [up_na (by decide), up_na (by decide), upM_eq]
  · unfold cS nS
    rw [up_ni (by decide), upM_eq, up_ni (by decide), upM_eq]
  · unfold cS nS
    rw [upM_eq, upM_eq]
  · unfold cS
    rw [upM_eq]; exact Or.inr rfl
  · unfold cS
    rw [up_ni (by decide), upM_eq]
  · rw [m1 _ _ (by omega), a2]; show (Ko.length : Int) = ((0 + (Ko.length + 0) : Nat) : Int); congr 1; omega
  · rw [n1 _ _ (by omega), c2]; show (Ko.length : Int) = ((0 + (Ko.length + 0) : Nat) : Int); congr 1; omega
  · show 0 + (Ko.length + 0) ≤ 64; omega
/-- both loops of a formula end alike -/
theorem q_loop (hg : g = 8 ∨ g = 31) (k : RT' M N n t) (h0 : 0 < t) (w : WB M N g Ko Vo Ao Bo) : ∃ y y', lp (stp (g + 12)) FU (0, cS M) = some y ∧ lp smp FU (nS N) = some y' ∧ LQ M N g n t Ko Vo Ao Bo y y' :=
  lp_tw (LI M N g n t Ko Vo Ao Bo) (fun x => (800 - x.1).toNat) (LQ M N g n t Ko Vo Ao Bo) (fun x x' h => q_turn hg x x' h) (0, cS M) (nS N) ⟨0, t, [], [], [], [], [], rfl, k.fr hg cS_f nS_f, Nat.le_refl _, FX_0 hg w, Or.inl h0, cS_f.c, nS_f.c⟩ (by show (800 - (0 : Int)).toNat < 1000000; decide)
end FORM

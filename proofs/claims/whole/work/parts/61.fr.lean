/-- m is as M at the places P -/
def Ag (P : Nat → Prop) (m M : MM) : Prop := ∀ a, P a → m a = M a
def Pr (P : Nat → Prop) {Y : Type} (M : MM) (q : Y → MM) (o : Option Y) : Prop := ∀ y, o = some y → Ag P (q y) M
section FR
variable {P : Nat → Prop} {X Y Z : Type} {M m : MM} {q : Y → MM}
theorem Ag.rf : Ag P M M := fun _ _ => rfl
theorem Ag.up {a i : Nat} {v : Int} (h : Ag P m M) (ha : ¬ P a) : Ag P (upM m a i v) M := fun x hx => by
  have e : upM m a i v x = m x := funext fun j => upM_ne x j (fun z => ha (z.1 ▸ hx))
  rw [e]
  exact h x hx
theorem Ag.cp {a0 a1 s d n : Nat} (h : Ag P m M) (ha : ¬ P a1) : Ag P (cpM m a0 a1 s d n) M := fun x hx => by
  have e : cpM m a0 a1 s d n x = m x := by
    funext j
    unfold cpM
    rw [if_neg]
    intro z
    exact ha (z.1 ▸ hx)
  rw [e]
  exact h x hx
theorem Pr_gd {c : Prop} [Decidable c] {o : Option Y} (h : Pr P M q o) : Pr P M q (gd c o) := fun y hy => h y (gd_s hy).2
theorem Pr_ite {c : Prop} [Decidable c] {o1 o2 : Option Y} (h1 : Pr P M q o1) (h2 : Pr P M q o2) : Pr P M q (if c then o1 else o2) := by
  split <;> assumption
theorem Pr_some {y : Y} (h : Ag P (q y) M) : Pr P M q (some y) := fun z hz => by cases hz; exact h
theorem Pr_bM {f : MM → Option Y} (h1 : Ag P m M) (h : ∀ m', Ag P m' M → Pr P M q (f m')) : Pr P M q (bM m f) := h m h1
theorem Pr_bI {f : Int → Option Y} {x : Int} (h : ∀ y, Pr P M q (f y)) : Pr P M q (bI x f) := h x
theorem Pr_gH {f : Nat → Option Y} {z : Int} (h : ∀ y, y = 8 ∨ y = 31 → Pr P M q (f y)) : Pr P M q (gH z f) := by
  unfold gH
  split
  · rename_i c; exact h _ (by omega)
  · intro y hy; cases hy
theorem Pr_bind {o : Option Z} {f : Z → Option Y} (r : Z → MM) (h1 : Pr P M r o) (h : ∀ z, Ag P (r z) M → Pr P M q (f z)) : Pr P M q (o.bind f) := fun y hy => by
  obtain ⟨z, e1, e2⟩ := Option.bind_eq_some_iff.mp hy
  exact h z (h1 z e1) y e2
theorem Pr_bindN {o : Option Z} {f : Z → Option Y} (h : ∀ z, Pr P M q (f z)) : Pr P M q (o.bind f) := fun y hy => by
  obtain ⟨z, e1, e2⟩ := Option.bind_eq_some_iff.mp hy
  exact h z y e2
theorem Pr_bS {o : Option (Z ⊕ X)} {f : Z → Option Y} {ρ : X → Y} (r : Z → MM) (h1 : Pr P M (Sum.elim r (fun x => q (ρ x))) o) (h : ∀ z, Ag P (r z) M → Pr P M q (f z)) : Pr P M q (bS o f ρ) := fun y hy => by
  obtain ⟨z, e1, e2⟩ := Option.bind_eq_some_iff.mp hy
  rcases z with z | z
  · exact h z (h1 _ e1) y e2
  · cases e2
    exact h1 _ e1
theorem Pr_lp {step : X → Option (X ⊕ Y)} (r : X → MM) (h : ∀ x, Ag P (r x) M → Pr P M (Sum.elim r q) (step x)) : ∀ (n : Nat) (x : X), Ag P (r x) M → Pr P M q (lp step n x)
  | 0, x, _ => fun y hy => by cases hy
  | n + 1, x, hx => fun y hy => by
    rw [lp] at hy
    obtain ⟨z, e1, e2⟩ := Option.bind_eq_some_iff.mp hy
    rcases z with x' | y'
    · exact Pr_lp r h n x' (h x hx _ e1) y e2
    · cases e2
      exact h x hx _ e1
end FR
def PC (a : Nat) : Prop := 88 ≤ a
def PM (a : Nat) : Prop := a < 88 ∨ 139 ≤ a

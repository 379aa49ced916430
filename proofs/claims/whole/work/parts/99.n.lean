/-- what is read so far, on both sides: the house at g of the class, the read halves of the second system -/
def RD (M N : MM) (g : Nat) : Prop := (M 2 2 = (g : Int) ∧ (g = 8 ∨ g = 31)) ∧ (M (g + 1) 0 = N 88 17 ∧ 0 ≤ M (g + 1) 0 ∧ M (g + 1) 0 ≤ 5) ∧ (M (g + 6) 0 = N 88 18 ∧ 0 ≤ M (g + 6) 0 ∧ M (g + 6) 0 ≤ 5) ∧ (M g 3 = N 88 19 ∧ 0 ≤ M g 3 ∧ M g 3 ≤ 4) ∧ (M g 7 = N 88 20 ∧ 0 ≤ M g 7 ∧ M g 7 ≤ 8) ∧ ((M g 12 = 0 ∨ M g 12 = 1) ∧ N 91 0 = M g 12 ∧ (M g 13 = 0 ∨ M g 13 = 1) ∧ N 91 1 = M g 13) ∧ ((N 92 3 = M g 9 ∧ 5 ≤ M g 9 ∧ M g 9 ≤ 30) ∧ (N 92 4 = M g 10 ∧ 0 ≤ M g 10 ∧ M g 10 < 5 ∧ (M g 10 < M (g + 1) 0 ∨ M g 10 = 0)) ∧ (N 92 5 = M g 11 ∧ 0 ≤ M g 11 ∧ M g 11 ≤ 99)) ∧ (∀ r : Nat, (r : Int) < M (g + 1) 0 → (N 93 (5 + r) = M (g + 2) r ∧ N 94 (5 + r) = M (g + 3) r ∧ N 95 (5 + r) = M (g + 4) r ∧ N 96 (5 + r) = M (g + 5) r) ∧ (0 ≤ M (g + 3) r ∧ M (g + 3) r ≤ 400) ∧ (0 ≤ M (g + 4) r ∧ M (g + 4) r ≤ 99) ∧ (0 ≤ M (g + 5) r ∧ M (g + 5) r ≤ 99)) ∧ (∀ p : Nat, (p : Int) < M (g + 6) 0 → (N 97 (5 + p) = M (g + 7) p ∧ N 98 (5 + p) = M (g + 8) p ∧ N 99 (5 + p) = M (g + 9) p ∧ N 100 (5 + p) = M (g + 10) p ∧ N 101 (5 + p) = M (g + 11) p) ∧ (0 ≤ M (g + 8) p ∧ M (g + 8) p < M (g + 1) 0) ∧ (0 ≤ M (g + 9) p ∧ M (g + 9) p ≤ 40) ∧ (0 ≤ M (g + 10) p ∧ M (g + 10) p ≤ 5) ∧ (0 ≤ M (g + 11) p ∧ M (g + 11) p ≤ 23)) ∧ (∀ s : Nat, (s : Int) < M g 3 → (N 102 (4 + s) = M (g + 19) s ∧ N 103 (4 + s) = M (g + 20) s ∧ N 104 (4 + s) = M (g + 21) s) ∧ (0 ≤ M (g + 21) s ∧ M (g + 21) s ≤ 99)) ∧ (∀ s : Nat, (s : Int) < M g 7 → N 105 (8 + s) = M (g + 22) s ∧ 0 ≤ M (g + 22) s ∧ M (g + 22) s ≤ 400)
/-- the reader at a token -/
def RT' (M N : MM) (n : Nat) (t : Nat) : Prop := TK M N n t ∧ M 3 6 = N 88 10 ∧ KR (M 3 4) (M 3 5) (N 88 8) (N 88 9)
/-- a fault told on both sides -/
theorem q_fail {M N : MM} (h : M 3 6 = N 88 10) (v : Int) : ∃ M' N', f_X7_fails M v = some (0, M') ∧ f_X12_wrong N v = some (0, N') ∧ (M' 2 5 = N' 88 4 ∧ M' 2 6 = N' 88 5) ∧ (∀ a j, ¬ (a = 2 ∧ (j = 5 ∨ j = 6)) → M' a j = M a j) ∧ ∀ a j, ¬ (a = 88 ∧ (j = 4 ∨ j = 5)) → N' a j = N a j := by
  unfold f_X7_fails f_X12_wrong
  rw [bM_eq, bM_eq, bM_eq, bM_eq, up_na (by decide), up_ni (by decide)]
  refine ⟨_, _, rfl, rfl, ⟨?_, ?_⟩, fun a j hn => ?_, fun a j hn => ?_⟩
  · rw [up_ni (by decide), upM_eq, up_ni (by decide), upM_eq]
  · rw [upM_eq, upM_eq]; exact h
  · rw [upM_ne a j (by omega), upM_ne a j (by omega)]
  · rw [upM_ne a j (by omega), upM_ne a j (by omega)]
theorem KR_n {k v k' w : Int} (h : KR k v k' w) : (k = 2 ↔ k' = 3) ∧ (k = 3 ↔ k' = 2) ∧ (k = 1 ↔ k' = 0) ∧ (k = 2 → NVR v w) ∧ (k = 3 → v = w) := by
  unfold KR at h
  unfold NVR
  rcases h with ⟨h1, h2⟩ | ⟨h1, h2, h3⟩ | ⟨h1, h2, h3⟩ | ⟨h1, h2⟩ | ⟨h1, h2, h3⟩ | ⟨h1, h2⟩ | ⟨h1, h2, h3, h4⟩
  · refine ⟨by omega, by omega, by omega, fun z => absurd z (by omega), fun z => absurd z (by omega)⟩
  · refine ⟨by omega, by omega, by omega, fun _ => h3, fun z => absurd z (by omega)⟩
  · refine ⟨by omega, by omega, by omega, fun z => absurd z (by omega), fun _ => h3⟩
  · refine ⟨by omega, by omega, by omega, fun z => absurd z (by omega), fun z => absurd z (by omega)⟩
  · refine ⟨by omega, by omega, by omega, fun z => absurd z (by omega), fun z => absurd z (by omega)⟩
  · refine ⟨by omega, by omega, by omega, fun z => absurd z (by omega), fun z => absurd z (by omega)⟩
  · refine ⟨by omega, by omega, by omega, fun z => absurd z (by omega), fun z => absurd z (by omega)⟩
/-- the places that numbers and names of a line may change -/
def CF (u : Nat) (M' M : MM) : Prop := ∀ a j, ¬ (a = 2 ∧ 3 ≤ j ∧ (j ≤ 4 ∨ u = 1)) → ¬ (a = 3 ∧ 3 ≤ j ∧ j ≤ 6) → M' a j = M a j
def NF (u : Nat) (N' N : MM) : Prop := ∀ a j, ¬ (a = 88 ∧ 4 ≤ j ∧ j ≤ 11 ∧ j ≠ 6 ∧ (6 ≤ j ∨ u = 1)) → N' a j = N a j
def FL (M N : MM) : Prop := M 2 5 = N 88 4 ∧ M 2 6 = N 88 5
section LINES
variable {M N : MM} {n t g : Nat}
theorem CF.rf {u : Nat} : CF u M M := fun _ _ _ _ => rfl
theorem NF.rf {u : Nat} : NF u N N := fun _ _ _ => rfl
theorem CF.tr {u : Nat} {M1 M2 M3 : MM} (h1 : CF u M1 M2) (h2 : CF 0 M2 M3) : CF u M1 M3 := fun a j x y => (h1 a j x y).trans (h2 a j (by omega) y)
theorem NF.tr {u : Nat} {M1 M2 M3 : MM} (h1 : NF u M1 M2) (h2 : NF 0 M2 M3) : NF u M1 M3 := fun a j x => (h1 a j x).trans (h2 a j (by omega))
theorem FT.c {u : Nat} {M' : MM} (f : FT M' M) : CF u M' M := fun a j _ y => f a j y
theorem FTN.c {u : Nat} {N' : MM} (f : FTN N' N) : NF u N' N := fun a j y => f a j (by omega)
theorem CF.up {u : Nat} {M' : MM} (f : CF u M' M) {j : Nat} {v : Int} (h : 3 ≤ j ∧ j ≤ 4) : CF u (upM M' 2 j v) M := fun a i x y => by rw [upM_ne a i (by omega)]; exact f a i x y
theorem NF.up {u : Nat} {N' : MM} (f : NF u N' N) {j : Nat} {v : Int} (h : 7 ≤ j ∧ j ≤ 11) : NF u (upM N' 88 j v) N := fun a i x => by rw [upM_ne a i (by omega)]; exact f a i x
/-- both fail alike, or both go on -/
def OUT (o1 o2 : Option (Int × MM)) (FC : Nat → MM → Prop) (FN : Nat → MM → Prop) (G : MM → MM → Prop) : Prop := (∃ M' N', o1 = some (0, M') ∧ o2 = some (0, N') ∧ FL M' N' ∧ FC 1 M' ∧ FN 1 N') ∨ ∃ M' N', o1 = some (1, M') ∧ o2 = some (1, N') ∧ G M' N' ∧ FC 0 M' ∧ FN 0 N'
theorem OUT.fail (h : M 3 6 = N 88 10) (v : Int) {FC FN : Nat → MM → Prop} {G : MM → MM → Prop} (h1 : ∀ M', CF 1 M' M → FC 1 M') (h2 : ∀ N', NF 1 N' N → FN 1 N') : OUT ((f_X7_fails M v).bind fun x => gd (x.1 = 0 ∨ x.1 = 1) <| some (x.1, x.2)) ((f_X12_wrong N v).bind fun x => gd (x.1 = 0 ∨ x.1 = 1) <| some (x.1, x.2)) FC FN G := by
  obtain ⟨M', N', e1, e2, e3, e4, e5⟩ := q_fail h v
  refine Or.inl ⟨M', N', ?_, ?_, e3, h1 M' (fun a j x y => e4 a j (by omega)), h2 N' (fun a j x => e5 a j (by omega))⟩
  · rw [e1, Option.bind_some, gd_t (Or.inl rfl)]
  · rw [e2, Option.bind_some, gd_t (Or.inl rfl)]
theorem q_num (k : RT' M N n t) {lo hi : Int} (hlo : 0 ≤ lo) (hhi : hi ≤ 9999) : OUT (f_X7_readNumber M lo hi) (f_X12_number N lo hi) (fun u M' => CF u M' M) (fun u N' => NF u N' N) (fun M' N' => (∃ s, t ≤ s ∧ RT' M' N' n s) ∧ M' 2 3 = N' 88 11 ∧ lo ≤ M' 2 3 ∧ M' 2 3 ≤ hi ∧ M' 2 4 = M 2 4) := by
  obtain ⟨k1, k2, k3⟩ := k
  obtain ⟨n1, n2, n3, n4, n5⟩ := KR_n k3
  unfold f_X7_readNumber f_X12_number
  by_cases q : M 3 4 = 2
  · have nv := n4 q
    unfold NVR at nv
    rw [if_pos q, if_pos (n1.mp q), pu_isWithin, pu_isIn, Option.bind_some, Option.bind_some, if_b1, if_b1]
    by_cases w : lo ≤ M 3 5 ∧ M 3 5 ≤ hi
    · have ev : N 88 9 = M 3 5 := by omega
      rw [if_pos w, ev, if_pos w, bM_eq, bM_eq]
      have kk : TK (upM M 2 3 (M 3 5)) (upM N 88 11 (M 3 5)) n t := by
        obtain ⟨⟨a1, a2, a3⟩, ⟨b1, b2, b3⟩, c, d⟩ := k1
        exact ⟨⟨by rw [up_na (by decide)]; exact a1, by rw [up_ni (by decide)]; exact a2, a3⟩, ⟨by rw [up_na (by decide)]; exact b1, by rw [up_ni (by decide)]; exact b2, b3⟩, c.cg (fun j => up_na (by decide)) (fun j => up_na (by decide)), d.cg (fun j => up_na (by decide)) (fun j => up_na (by decide))⟩
      obtain ⟨M1, N1, e1, e2, s, s1, s2, s3, s4, s5, s6, s7⟩ := q_tok kk
      have m23 : M1 2 3 = M 3 5 := by rw [s2 2 3 (by omega), upM_eq]
      have n11 : N1 88 11 = M 3 5 := by rw [s3 88 11 (by omega), upM_eq]
      have m24 : M1 2 4 = M 2 4 := by rw [s2 2 4 (by omega), up_ni (by decide)]
      rw [e1, e2, Option.bind_some, Option.bind_some]
      exact Or.inr ⟨M1, N1, rfl, rfl, ⟨⟨s, s7, s1, s4, s5⟩, by rw [m23, n11], by rw [m23]; exact w.1, by rw [m23]; exact w.2, m24⟩, s2.c.tr (CF.rf.up (by decide)), s3.c.tr (NF.rf.up (by decide))⟩
    · have w' : ¬ (lo ≤ N 88 9 ∧ N 88 9 ≤ hi) := by omega
      rw [if_neg w, if_neg w']
      exact OUT.fail k2 2 (fun _ h => h) (fun _ h => h)
  · rw [if_neg q, if_neg (fun z => q (n1.mpr z))]
    exact OUT.fail k2 1 (fun _ h => h) (fun _ h => h)
end LINES

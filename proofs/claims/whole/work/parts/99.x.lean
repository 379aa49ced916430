/-- what is known amid a formula, but for the token: the class's side and the second system's -/
def FX (M N : MM) (g : Nat) (W K V A B Ko Vo Ao Bo : List Int) : Prop := CFS M g W (K ++ Ko) (V ++ Vo) ∧ NFS N W (plc Ko.length K) (Ko.length + K.length) ((K ++ Ko).map mk) (A ++ Ao) (B ++ Bo) ∧ (AJ W ∧ SO W) ∧ (M 5 4 = (nb W : Int) ∧ N 88 47 = (nb W : Int) ∧ nb W ≤ 8) ∧ (M 7 (nb W) = CT W ∧ CP (M 7) W) ∧ (N 88 49 = M 5 5 ∧ N 88 50 = M 5 6 ∧ (M 5 6 = 0 ∨ M 5 6 = 1)) ∧ ((M 5 5 = 0 ∧ (plc Ko.length K).length = bn W + 1) ∨ (M 5 5 = 1 ∧ (plc Ko.length K).length = bn W ∧ (M 5 6 = 1 → tp W ≤ 3))) ∧ (M (g + 12) 7 = ((nz W + (Ko.length + K.length) : Nat) : Int) ∧ N 88 48 = ((nz W + (Ko.length + K.length) : Nat) : Int) ∧ nz W + (Ko.length + K.length) ≤ 64) ∧ OKK Ko.length K V A B
/-- what one turn changes, but for the token -/
def FF1 (g : Nat) (M' M : MM) : Prop := ∀ a j, ¬ (a = 5 ∧ 3 ≤ j) → a ≠ 6 → a ≠ 7 → ¬ (a = g + 12 ∧ (j = 6 ∨ j = 7)) → a ≠ g + 13 → a ≠ g + 14 → M' a j = M a j
def FN1 (N' N : MM) : Prop := ∀ a j, ¬ (a = 88 ∧ (j = 21 ∨ (45 ≤ j ∧ j ≤ 50))) → ¬ (109 ≤ a ∧ a ≤ 111 ∧ 64 ≤ j) → a ≠ 112 → a ≠ 113 → N' a j = N a j
/-- what a formula changes -/
def FFC (g : Nat) (M' M : MM) : Prop := ∀ a j, ¬ (a = 2 ∧ 3 ≤ j ∧ j ≤ 4) → ¬ (a = 3 ∧ 3 ≤ j ∧ j ≤ 6) → ¬ (a = 5 ∧ 3 ≤ j) → a ≠ 6 → a ≠ 7 → ¬ (a = g + 12 ∧ (j = 6 ∨ j = 7)) → a ≠ g + 13 → a ≠ g + 14 → M' a j = M a j
def FFN (u : Nat) (N' N : MM) : Prop := ∀ a j, ¬ (a = 88 ∧ ((4 ≤ j ∧ j ≤ 11 ∧ j ≠ 6 ∧ (6 ≤ j ∨ u = 1)) ∨ j = 21 ∨ (45 ≤ j ∧ j ≤ 50))) → ¬ (109 ≤ a ∧ a ≤ 111 ∧ 64 ≤ j) → a ≠ 112 → a ≠ 113 → N' a j = N a j
section FORM
variable {M N M' N' : MM} {n t g : Nat} {W K V A B Ko Vo Ao Bo : List Int}
theorem FF1.rf : FF1 g M M := fun _ _ _ _ _ _ _ _ => rfl
theorem FN1.rf : FN1 N N := fun _ _ _ _ _ _ => rfl
theorem FF1.tr {M1 M2 M3 : MM} (h1 : FF1 g M1 M2) (h2 : FF1 g M2 M3) : FF1 g M1 M3 := fun a j x1 x2 x3 x4 x5 x6 => (h1 a j x1 x2 x3 x4 x5 x6).trans (h2 a j x1 x2 x3 x4 x5 x6)
theorem FN1.tr {N1 N2 N3 : MM} (h1 : FN1 N1 N2) (h2 : FN1 N2 N3) : FN1 N1 N3 := fun a j x1 x2 x3 x4 => (h1 a j x1 x2 x3 x4).trans (h2 a j x1 x2 x3 x4)
theorem FF1.up (f : FF1 g M' M) {a i : Nat} {v : Int} (h : (a = 5 ∧ 3 ≤ i) ∨ a = 6 ∨ a = 7 ∨ (a = g + 12 ∧ (i = 6 ∨ i = 7))) : FF1 g (upM M' a i v) M := fun b j x1 x2 x3 x4 x5 x6 => by rw [upM_ne b j (by omega)]; exact f b j x1 x2 x3 x4 x5 x6
theorem FN1.up (f : FN1 N' N) {a i : Nat} {v : Int} (h : (a = 88 ∧ (i = 21 ∨ (45 ≤ i ∧ i ≤ 50))) ∨ a = 112) : FN1 (upM N' a i v) N := fun b j x1 x2 x3 x4 => by rw [upM_ne b j (by omega)]; exact f b j x1 x2 x3 x4
theorem FRL.f (f : FRL g M' M) : FF1 g M' M := fun a j x1 x2 x3 x4 x5 x6 => f a j (by omega) (by omega) x5 x6
theorem FBN.f (f : FBN N' N) : FN1 N' N := fun a j x1 x2 x3 x4 => f a j (by omega) x2 x4
theorem FFC.tr {M1 M2 M3 : MM} (h1 : FFC g M1 M2) (h2 : FFC g M2 M3) : FFC g M1 M3 := fun a j x1 x2 x3 x4 x5 x6 x7 x8 => (h1 a j x1 x2 x3 x4 x5 x6 x7 x8).trans (h2 a j x1 x2 x3 x4 x5 x6 x7 x8)
theorem FFN.tr {u : Nat} {N1 N2 N3 : MM} (h1 : FFN u N1 N2) (h2 : FFN 0 N2 N3) : FFN u N1 N3 := fun a j x1 x2 x3 x4 => (h1 a j x1 x2 x3 x4).trans (h2 a j (by omega) x2 x3 x4)
theorem FF1.c (f : FF1 g M' M) : FFC g M' M := fun a j _ _ x1 x2 x3 x4 x5 x6 => f a j x1 x2 x3 x4 x5 x6
theorem FN1.c {u : Nat} (f : FN1 N' N) : FFN u N' N := fun a j x1 x2 x3 x4 => f a j (by omega) x2 x3 x4
theorem FT.k (f : FT M' M) : FFC g M' M := fun a j _ x2 _ _ _ _ _ _ => f a j x2
theorem FTN.k {u : Nat} (f : FTN N' N) : FFN u N' N := fun a j x1 _ _ _ => f a j (by omega)
theorem RT'.fr (hg : g = 8 ∨ g = 31) (k : RT' M N n t) (f : FF1 g M' M) (f' : FN1 N' N) : RT' M' N' n t := by
  obtain ⟨⟨⟨a1, a2, a3⟩, ⟨b1, b2, b3⟩, c, d⟩, e1, e2⟩ := k
  have fm : ∀ a j, a = 1 ∨ a = 3 ∨ a = 4 → M' a j = M a j := fun a j h => f a j (by omega) (by omega) (by omega) (by omega) (by omega) (by omega)
  have fn : ∀ a j, a = 89 ∨ a = 90 ∨ (a = 88 ∧ 6 ≤ j ∧ j ≤ 10) → N' a j = N a j := fun a j h => f' a j (by omega) (by omega) (by omega) (by omega)
  refine ⟨⟨⟨by rw [fm 3 2 (by omega)]; exact a1, by rw [fn 88 6 (by omega)]; exact a2, a3⟩, ⟨by rw [fm 3 3 (by omega)]; exact b1, by rw [fn 88 7 (by omega)]; exact b2, b3⟩, c.cg (fun j => fm 1 j (by omega)) (fun j => fn 89 j (by omega)), d.cg (fun j => fm 4 j (by omega)) (fun j => fn 90 j (by omega))⟩, by rw [fm 3 6 (by omega), fn 88 10 (by omega)]; exact e1, ?_⟩
  rw [fm 3 4 (by omega), fm 3 5 (by omega), fn 88 8 (by omega), fn 88 9 (by omega)]
  exact e2
theorem CFS.cg (c : CFS M g W K V) (h1 : M' 5 3 = M 5 3) (h2 : ∀ j, M' 6 j = M 6 j) (h3 : M' (g + 12) 6 = M (g + 12) 6) (h4 : ∀ j, M' (g + 13) j = M (g + 13) j) (h5 : ∀ j, M' (g + 14) j = M (g + 14) j) : CFS M' g W K V := by
  obtain ⟨c1, c2, c3, c4, c5, c6⟩ := c
  exact ⟨by rw [h1]; exact c1, c2.cg (fun j _ => h2 j), by rw [h3]; exact c3, c4.cg (fun j _ => h4 j), c5.cg (fun j _ => h5 j), c6⟩
theorem NFS.cg {P G A B : List Int} {m : Nat} (c : NFS N W P m G A B) (h : ∀ a j, (a = 88 ∧ (j = 21 ∨ j = 45 ∨ j = 46)) ∨ (109 ≤ a ∧ a ≤ 113) → N' a j = N a j) : NFS N' W P m G A B := by
  obtain ⟨⟨a1, a2⟩, ⟨b1, b3⟩, c1, ⟨d1, d2⟩, ⟨e1, e2⟩, f1, f2⟩ := c
  exact ⟨⟨by rw [h 88 45 (by omega)]; exact a1, a2.cg (fun j _ => h 112 j (by omega))⟩, ⟨by rw [h 88 46 (by omega)]; exact b1, b3.cg (fun j _ => h 113 j (by omega))⟩, by rw [h 88 21 (by omega)]; exact c1, ⟨d1.cg (fun j _ => h 109 _ (by omega)), d2⟩, ⟨e1.cg (fun j _ => h 110 _ (by omega)), e2⟩, f1.cg (fun j _ => h 111 _ (by omega)), f2⟩
theorem CP.cg {row row' : Nat → Int} : ∀ {W : List Int}, CP row W → (∀ j, j < nb W → row' j = row j) → CP row' W
  | [], _, _ => trivial
  | x :: L, ⟨h1, h2⟩, h => by
    have e : nb (x :: L) = (if x = 40 then 1 else 0) + nb L := rfl
    refine ⟨fun z => ?_, CP.cg h2 (fun j hj => h j (by rw [e]; omega))⟩
    rw [h (nb L) (by rw [e, if_pos z]; omega)]
    exact h1 z
theorem FX.tok (hg : g = 8 ∨ g = 31) (x : FX M N g W K V A B Ko Vo Ao Bo) (f : FT M' M) (f' : FTN N' N) : FX M' N' g W K V A B Ko Vo Ao Bo := by
  obtain ⟨c1, c2, c3, ⟨d1, d2, d3⟩, ⟨e1, e2⟩, ⟨i1, i2, i3⟩, j, ⟨k1, k2, k3⟩, l⟩ := x
  have m5 : ∀ i, M' 5 i = M 5 i := fun i => f 5 i (by omega)
  refine ⟨c1.cg (m5 3) (fun j => f 6 j (by omega)) (f _ _ (by omega)) (fun j => f _ _ (by omega)) (fun j => f _ _ (by omega)), c2.cg (fun a j h => f' a j (by omega)), c3, ⟨by rw [m5]; exact d1, by rw [f' 88 47 (by omega)]; exact d2, d3⟩, ⟨by rw [f 7 _ (by omega)]; exact e1, e2.cg (fun j _ => f 7 j (by omega))⟩, ⟨by rw [f' 88 49 (by omega), m5]; exact i1, by rw [f' 88 50 (by omega), m5]; exact i2, by rw [m5]; exact i3⟩, by rw [m5, m5]; exact j, ⟨by rw [f _ _ (by omega)]; exact k1, by rw [f' 88 48 (by omega)]; exact k2, k3⟩, l⟩
/-- a turn that goes on -/
def GO (M N : MM) (g n t : Nat) (Ko Vo Ao Bo : List Int) (o1 : Option (Int × MM)) (o2 : Option (Int × MM)) : Prop := ∃ M1 M2 N2, o1 = some (0, M1) ∧ f_X9_advance M1 = some M2 ∧ o2 = some (1, N2) ∧ (∃ s W K V A B, RT' M2 N2 n s ∧ FX M2 N2 g W K V A B Ko Vo Ao Bo ∧ (t < s ∨ M2 3 4 = 1) ∧ t ≤ s) ∧ FFC g M2 M ∧ FFN 0 N2 N
/-- a turn that fails -/
def NO (M N : MM) (o1 : Option (Int × MM)) (o2 : Option (Int × MM)) : Prop := ∃ v N', v ≠ 0 ∧ o1 = some (v, M) ∧ o2 = some (0, N') ∧ N' 88 4 = v ∧ N' 88 5 = M 3 6 ∧ FFN 1 N' N
theorem GO.mk {M1 N1 : MM} (hg : g = 8 ∨ g = 31) (k : RT' M N n t) (f : FF1 g M1 M) (f' : FN1 N1 N) (x : FX M1 N1 g W K V A B Ko Vo Ao Bo) {o1 o2 : Option (Int × MM)} (e1 : o1 = some (0, M1)) (e2 : o2 = (f_X12_token N1).bind fun y => some (1, y)) : GO M N g n t Ko Vo Ao Bo o1 o2 := by
  obtain ⟨M2, N2, r1, r2, ⟨s, r3, r4, r5⟩, r6, r7⟩ := (k.fr hg f f').next
  exact ⟨M1, M2, N2, e1, r1, by rw [e2, r2, Option.bind_some], ⟨s, W, K, V, A, B, r3, x.tok hg r6 r7, r4, r5⟩, r6.k.tr f.c, r7.k.tr f'.c⟩
theorem NO.mk {N1 : MM} (k : RT' M N n t) (f' : FN1 N1 N) {v : Int} (hv : v ≠ 0) {o1 o2 : Option (Int × MM)} (e1 : o1 = some (v, M)) (e2 : o2 = (f_X12_wrong N1 v).bind fun x => gd (x.1 = 0 ∨ x.1 = 1) <| some (x.1, x.2)) : NO M N o1 o2 := by
  obtain ⟨N', r1, r2, r3, r4⟩ := m_wrong N1 v
  refine ⟨v, N', hv, e1, by rw [e2, r1, Option.bind_some, gd_t (Or.inl rfl)], r2, by rw [r3, f' 88 10 (by omega) (by omega) (by omega) (by omega)]; exact k.2.1.symm, ?_⟩
  intro a j x1 x2 x3 x4
  rw [r4 a j (by omega)]
  exact f' a j (by omega) x2 x3 x4
theorem c_await {x : Int} (c : CFS M g W K V) (hg : g = 8 ∨ g = 31) (h : W.length < 72) : ∃ M', f_X1_await M x = some M' ∧ CFS M' g (x :: W) K V ∧ ∀ a j, a ≠ 6 → ¬ (a = 5 ∧ j = 3) → M' a j = M a j := by
  obtain ⟨c1, c2, c3, c4, c5, c6⟩ := c
  have z : 0 ≤ (W.length : Int) ∧ (W.length : Int) < 72 := by omega
  refine ⟨upM (upM M 6 W.length x) 5 3 ((W.length + 1 : Nat) : Int), ?_, ⟨by rw [upM_eq, List.length_cons], ⟨by rw [up_na (by decide), upM_eq], c2.cg (fun j hj => by rw [up_na (by decide), up_ni (by omega)])⟩, by rw [up_na (by omega), up_na (by omega)]; exact c3, c4.cg (fun j _ => by rw [up_na (by omega), up_na (by omega)]), c5.cg (fun j _ => by rw [up_na (by omega), up_na (by omega)]), c6⟩, fun a j h1 h2 => by rw [upM_ne a j h2, up_na h1]⟩
  unfold f_X1_await
  rw [c1, if_pos z.2, gd_t z, bM_eq, Int.toNat_natCast, up_na (by decide), c1, wi7 (by omega), bM_eq]
theorem m_waits {x : Int} {P G A B : List Int} {m : Nat} (c : NFS N W P m G A B) (h : W.length < 96) : ∃ N', f_X12_waitsFor N (cd x) = some N' ∧ NFS N' (x :: W) P m G A B ∧ ∀ a j, a ≠ 112 → ¬ (a = 88 ∧ j = 45) → N' a j = N a j := by
  obtain ⟨⟨a1, a2⟩, ⟨b1, b3⟩, c1, ⟨d1, d2⟩, ⟨e1, e2⟩, f1, f2⟩ := c
  have z : 0 ≤ (W.length : Int) ∧ (W.length : Int) < 96 := by omega
  have fr : ∀ a j, a ≠ 112 → ¬ (a = 88 ∧ j = 45) → upM (upM N 112 W.length (cd x)) 88 45 ((W.length + 1 : Nat) : Int) a j = N a j := fun a j h1 h2 => by rw [upM_ne a j h2, up_na h1]
  refine ⟨upM (upM N 112 W.length (cd x)) 88 45 ((W.length + 1 : Nat) : Int), ?_, ⟨⟨by rw [upM_eq, List.length_cons], ⟨by rw [List.length_map, up_na (by decide), upM_eq], a2.cg (fun j hj => by rw [List.length_map] at hj; rw [up_na (by decide), up_ni (by omega)])⟩⟩, ⟨by rw [fr 88 46 (by decide) (by decide)]; exact b1, b3.cg (fun j _ => fr 113 j (by omega) (by omega))⟩, by rw [fr 88 21 (by decide) (by decide)]; exact c1, ⟨d1.cg (fun j _ => fr 109 _ (by omega) (by omega)), d2⟩, ⟨e1.cg (fun j _ => fr 110 _ (by omega) (by omega)), e2⟩, f1.cg (fun j _ => fr 111 _ (by omega) (by omega)), f2⟩, fr⟩
  unfold f_X12_waitsFor
  rw [a1, gd_t z, bM_eq, Int.toNat_natCast, up_na (by decide), a1, wi7 (by omega), bM_eq]
end FORM

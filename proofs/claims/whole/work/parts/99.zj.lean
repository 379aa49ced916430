/-- a slice of what is written -/
def SL (Ko Vo Ao Bo : List Int) (st : Nat) (K V A B : List Int) : Prop := ∃ K1 K0 V1 V0 A1 A0 B1 B0 : List Int, (Ko = K1 ++ (K ++ K0) ∧ K0.length = st) ∧ (Vo = V1 ++ (V ++ V0) ∧ V0.length = st) ∧ (Ao = A1 ++ (A ++ A0) ∧ A0.length = st) ∧ (Bo = B1 ++ (B ++ B0) ∧ B0.length = st)
/-- a law told, or not, on both sides -/
def LT1 (M N : MM) (g l : Nat) (Ko Vo Ao Bo : List Int) : Prop := (N 106 (3 + l) = 0 ∧ ¬ M (g + 15) l < M (g + 16) l) ∨ (N 106 (3 + l) = 1 ∧ ∃ (st : Nat) (K V A B : List Int), SL Ko Vo Ao Bo st K V A B ∧ (M (g + 15) l = (st : Int) ∧ M (g + 16) l = ((st + K.length : Nat) : Int)) ∧ (N 107 (3 + l) = (st : Int) ∧ N 108 (3 + l) = ((st + K.length : Nat) : Int)) ∧ OKK st K V A B ∧ (plc st K).length = 1)
def LW (M N : MM) (g : Nat) : Prop := ∃ Ko Vo Ao Bo : List Int, WB M N g Ko Vo Ao Bo ∧ ∀ l : Nat, l < 3 → LT1 M N g l Ko Vo Ao Bo
/-- what a line may change -/
def LLC (g : Nat) (M M' : MM) : Prop := (∀ a j, ¬ (a = 2 ∧ 3 ≤ j) → ¬ (a = 3 ∧ 3 ≤ j ∧ j ≤ 6) → ¬ (a = 5 ∧ 3 ≤ j) → a ≠ 6 → a ≠ 7 → ¬ (g ≤ a ∧ a ≤ g + 22 ∧ ¬ (a = g ∧ j = 14)) → M' a j = M a j) ∧ (8 ≤ g → ∀ r : Nat, (0 ≤ M (g + 3) r ∧ M (g + 3) r ≤ 600) → 0 ≤ M' (g + 3) r ∧ M' (g + 3) r ≤ 600)
def LLN (N N' : MM) : Prop := ∀ a j, ¬ (a = 88 ∧ ((4 ≤ j ∧ j ≤ 11 ∧ j ≠ 6) ∨ (17 ≤ j ∧ j ≤ 21) ∨ (45 ≤ j ∧ j ≤ 50))) → a ≠ 91 → ¬ (a = 92 ∧ 3 ≤ j) → ¬ (93 ≤ a ∧ a ≤ 101 ∧ 5 ≤ j) → ¬ (102 ≤ a ∧ a ≤ 104 ∧ 4 ≤ j) → ¬ (a = 105 ∧ 8 ≤ j) → ¬ (106 ≤ a ∧ a ≤ 108 ∧ 3 ≤ j) → ¬ (109 ≤ a ∧ a ≤ 111 ∧ 64 ≤ j) → a ≠ 112 → a ≠ 113 → N' a j = N a j
/-- the second system's line of a law -/
def mlaw (M : MM) : Option ((Int × MM) ⊕ (Int × MM)) := (f_X12_token M).bind fun x15 =>
if (x15 88 8) = 1 then
(if (x15 88 9) < 7 then
((f_X12_wrong x15 1).bind fun x18 =>
gd (x18.1 = 0 ∨ x18.1 = 1) <|
some (Sum.inr (x18.1, x18.2)))
else
if 9 < (x15 88 9) then
((f_X12_wrong x15 1).bind fun x21 =>
gd (x21.1 = 0 ∨ x21.1 = 1) <|
some (Sum.inr (x21.1, x21.2)))
else
bI (w32 ((w32 (3 + (x15 88 9))) - 7)) fun x23 =>
gd (0 ≤ x23 ∧ x23 < (6 : Int)) <|
if (x15 106 (x23).toNat) = 0 then
(gd (0 ≤ x23 ∧ x23 < (6 : Int)) <|
bM (upM x15 106 (x23).toNat 1) fun M27 =>
(f_X12_token M27).bind fun x28 =>
gd (0 ≤ x23 ∧ x23 < (6 : Int)) <|
bM (upM x28 107 (x23).toNat (x28 88 21)) fun M30 =>
(f_X12_sumRead M30).bind fun x31 =>
gd (0 ≤ x23 ∧ x23 < (6 : Int)) <|
bM (upM x31.2 108 (x23).toNat (x31.2 88 21)) fun M33 =>
some (Sum.inl (x31.1, M33)))
else
(f_X12_wrong x15 3).bind fun x34 =>
gd (x34.1 = 0 ∨ x34.1 = 1) <|
some (Sum.inr (x34.1, x34.2)))
else
(f_X12_wrong x15 1).bind fun x36 =>
gd (x36.1 = 0 ∨ x36.1 = 1) <|
some (Sum.inr (x36.1, x36.2))
section LAWL
variable {M N M' N' : MM} {n t g : Nat} {Ko Vo Ao Bo : List Int}
theorem LLC.tr {M1 M2 M3 : MM} (h1 : LLC g M1 M2) (h2 : LLC g M2 M3) : LLC g M1 M3 := ⟨fun a j x1 x2 x3 x4 x5 x6 => (h2.1 a j x1 x2 x3 x4 x5 x6).trans (h1.1 a j x1 x2 x3 x4 x5 x6), fun h r k => h2.2 h r (h1.2 h r k)⟩
theorem LLN.tr {N1 N2 N3 : MM} (h1 : LLN N1 N2) (h2 : LLN N2 N3) : LLN N1 N3 := fun a j x1 x2 x3 x4 x5 x6 x7 x8 x9 x10 => (h2 a j x1 x2 x3 x4 x5 x6 x7 x8 x9 x10).trans (h1 a j x1 x2 x3 x4 x5 x6 x7 x8 x9 x10)
theorem LCF.ll {u : Nat} (f : LCF u g M M') : LLC g M M' := ⟨fun a j x1 x2 _ _ _ x6 => f.1 a j (by omega) x2 (by omega) (by omega), f.2⟩
theorem LNF.ll {u : Nat} (f : LNF u N N') : LLN N N' := fun a j x1 x2 x3 x4 x5 x6 _ _ _ _ => f a j (by omega) x2 x3 x4 x5 x6
theorem FFC.ll (f : FFC g M' M) : LLC g M M' := ⟨fun a j x1 x2 x3 x4 x5 x6 => f a j (by omega) x2 x3 x4 x5 (by omega) (by omega) (by omega), fun h r k => by rw [f (g + 3) r (by omega) (by omega) (by omega) (by omega) (by omega) (by omega) (by omega) (by omega)]; exact k⟩
theorem FFN.ll {u : Nat} (f : FFN u N' N) : LLN N N' := fun a j x1 _ _ _ _ _ _ x8 x9 x10 => f a j (by omega) x8 x9 x10
theorem FTN.kl (f : FTN N' N) : LLN N N' := (FTN.k (u := 0) f).ll
theorem LLC.up (f : LLC g M M') {a i : Nat} {v : Int} (h : ((a = 2 ∧ 3 ≤ i) ∨ (g ≤ a ∧ a ≤ g + 22 ∧ ¬ (a = g ∧ i = 14))) ∧ a ≠ g + 3) : LLC g M (upM M' a i v) := ⟨fun b j x1 x2 x3 x4 x5 x6 => by rw [upM_ne b j (by omega)]; exact f.1 b j x1 x2 x3 x4 x5 x6, fun h8 r k => by rw [up_na (by omega)]; exact f.2 h8 r k⟩
theorem LLN.up (f : LLN N N') {a i : Nat} {v : Int} (h : (a = 88 ∧ 4 ≤ i ∧ i ≤ 5) ∨ (106 ≤ a ∧ a ≤ 108 ∧ 3 ≤ i)) : LLN N (upM N' a i v) := fun b j x1 x2 x3 x4 x5 x6 x7 x8 x9 x10 => by rw [upM_ne b j (by omega)]; exact f b j x1 x2 x3 x4 x5 x6 x7 x8 x9 x10
theorem c_fails (M : MM) (v : Int) : f_X7_fails M v = some (0, upM (upM M 2 5 v) 2 6 (M 3 6)) := by
  unfold f_X7_fails
  rw [bM_eq, bM_eq, up_na (by decide)]
theorem WB.cg (w : WB M N g Ko Vo Ao Bo) (h1 : ∀ j, M' (g + 12) j = M (g + 12) j) (h2 : ∀ j, M' (g + 13) j = M (g + 13) j) (h3 : ∀ j, M' (g + 14) j = M (g + 14) j) (h4 : N' 88 21 = N 88 21) (h5 : N' 88 48 = N 88 48) (h6 : ∀ a j, 109 ≤ a ∧ a ≤ 111 → N' a j = N a j) : WB M' N' g Ko Vo Ao Bo := by
  obtain ⟨⟨a1, a2, a3⟩, ⟨b1, b2, b3⟩, ⟨c1, c2⟩, d, ⟨e1, e2⟩, i1, i2⟩ := w
  exact ⟨⟨by rw [h1]; exact a1, by rw [h1]; exact a2, a3⟩, ⟨b1.cg (fun j _ => h2 j), b2.cg (fun j _ => h3 j), b3⟩, ⟨by rw [h4]; exact c1, by rw [h5]; exact c2⟩, d.cg (fun j _ => h6 109 _ (by omega)), ⟨e1.cg (fun j _ => h6 110 _ (by omega)), e2⟩, i1.cg (fun j _ => h6 111 _ (by omega)), i2⟩
theorem LT1.cg {l : Nat} (w : LT1 M N g l Ko Vo Ao Bo) (h1 : M' (g + 15) l = M (g + 15) l) (h2 : M' (g + 16) l = M (g + 16) l) (h3 : ∀ a, 106 ≤ a ∧ a ≤ 108 → N' a (3 + l) = N a (3 + l)) : LT1 M' N' g l Ko Vo Ao Bo := by
  unfold LT1 at w ⊢
  rw [h1, h2, h3 106 (by omega), h3 107 (by omega), h3 108 (by omega)]
  exact w
theorem LT1.ap {l : Nat} (w : LT1 M N g l Ko Vo Ao Bo) (K V A B : List Int) : LT1 M N g l (K ++ Ko) (V ++ Vo) (A ++ Ao) (B ++ Bo) := by
  rcases w with w | ⟨w1, st, K', V', A', B', ⟨K1, K0, V1, V0, A1, A0, B1, B0, ⟨a1, a2⟩, ⟨b1, b2⟩, ⟨c1, c2⟩, d1, d2⟩, w3⟩
  · exact Or.inl w
  · exact Or.inr ⟨w1, st, K', V', A', B', ⟨K ++ K1, K0, V ++ V1, V0, A ++ A1, A0, B ++ B1, B0, ⟨by rw [a1, List.append_assoc], a2⟩, ⟨by rw [b1, List.append_assoc], b2⟩, ⟨by rw [c1, List.append_assoc], c2⟩, by rw [d1, List.append_assoc], d2⟩, w3⟩
theorem LW.cg (w : LW M N g) (hm : ∀ a j, g + 12 ≤ a ∧ a ≤ g + 16 → M' a j = M a j) (h8 : N' 88 21 = N 88 21 ∧ N' 88 48 = N 88 48) (hn : ∀ a j, 106 ≤ a ∧ a ≤ 111 → N' a j = N a j) : LW M' N' g := by
  obtain ⟨Ko, Vo, Ao, Bo, w1, w2⟩ := w
  exact ⟨Ko, Vo, Ao, Bo, w1.cg (fun j => hm _ _ (by omega)) (fun j => hm _ _ (by omega)) (fun j => hm _ _ (by omega)) h8.1 h8.2 (fun a j h => hn a j (by omega)), fun l hl => (w2 l hl).cg (hm _ _ (by omega)) (hm _ _ (by omega)) (fun a h => hn a _ (by omega))⟩
/-- the fault last told stays -/
def FLK (M N M' N' : MM) : Prop := (M' 2 5 = M 2 5 ∧ M' 2 6 = M 2 6) ∧ (N' 88 4 = N 88 4 ∧ N' 88 5 = N 88 5)
theorem FLK.tr {M1 N1 M2 N2 M3 N3 : MM} (h1 : FLK M1 N1 M2 N2) (h2 : FLK M2 N2 M3 N3) : FLK M1 N1 M3 N3 := ⟨⟨h2.1.1.trans h1.1.1, h2.1.2.trans h1.1.2⟩, ⟨h2.2.1.trans h1.2.1, h2.2.2.trans h1.2.2⟩⟩
/-- a line of a law, on both sides -/
theorem q_lawLine (k : RT' M N n t) (h0 : 0 < t) (rd : RD M N g) (lw : LW M N g) : (∃ M' N', f_X7_readLaw M = some (0, M') ∧ (mlaw N = some (Sum.inl (0, N')) ∨ mlaw N = some (Sum.inr (0, N'))) ∧ FL M' N' ∧ LLC g M M' ∧ LLN N N') ∨ ∃ M' N', f_X7_readLaw M = some (1, M') ∧ mlaw N = some (Sum.inl (1, N')) ∧ ((∃ s, t ≤ s ∧ RT' M' N' n s) ∧ RD M' N' g ∧ LW M' N' g ∧ FLK M N M' N') ∧ LLC g M M' ∧ LLN N N' := by
  obtain ⟨r1, hg⟩ := rd.1
  unfold f_X7_readLaw mlaw
  obtain ⟨M1, N1, e1, e2, ⟨s1, k1, _, t1⟩, f1, f1'⟩ := k.next
  rw [e1, e2, Option.bind_some, Option.bind_some]
  obtain ⟨ka, kb, kc⟩ := k_key k1.2.2
  have no : ∀ v : Int, ∃ M' N', f_X7_fails M1 v = some (0, M') ∧ f_X12_wrong N1 v = some (0, N') ∧ FL M' N' ∧ LLC g M M' ∧ LLN N N' := fun v => by
    obtain ⟨M', N', h1, h2, h3, h4, h5⟩ := q_fail k1.2.1 v
    exact ⟨M', N', h1, h2, h3, ⟨fun a j x1 x2 _ _ _ _ => by rw [h4 a j (by omega), f1 a j x2], fun _ r k => by rw [h4 (g + 3) r (by omega), f1 (g + 3) r (by omega)]; exact k⟩, fun a j x1 _ _ _ _ _ _ _ _ _ => by rw [h5 a j (by omega), f1' a j (by omega)]⟩
  unfold f_X9_isLaw
  by_cases q : 307 ≤ M1 3 4 ∧ M1 3 4 < 310
  rotate_left
  · obtain ⟨M', N', h1, h2, h3, h4, h5⟩ := no 1
    refine Or.inl ⟨M', N', ?_, Or.inr ?_, h3, h4, h5⟩
    · by_cases q1 : M1 3 4 < 307
      · rw [if_pos q1, Option.bind_some, if_pos rfl, h1, Option.bind_some, gd_t (Or.inl rfl)]
      · rw [if_neg q1, if_neg (show ¬ M1 3 4 < 310 by omega), Option.bind_some, if_pos rfl, h1, Option.bind_some, gd_t (Or.inl rfl)]
    · by_cases q1 : N1 88 8 = 1
      · rw [if_pos q1]
        have b' := kb q1
        by_cases q2 : N1 88 9 < 7
        · rw [if_pos q2, h2, Option.bind_some, gd_t (Or.inl rfl)]
        · rw [if_neg q2, if_pos (show 9 < N1 88 9 by omega), h2, Option.bind_some, gd_t (Or.inl rfl)]
      · rw [if_neg q1, h2, Option.bind_some, gd_t (Or.inl rfl)]
  obtain ⟨l, hl⟩ := nat_of (show 0 ≤ M1 3 4 - 307 by omega)
  have l3 : l < 3 := by omega
  have q1 : N1 88 8 = 1 := ka.mpr (by omega)
  have n9 : N1 88 9 = 7 + (l : Int) := by have b' := kb q1; omega
  have w1 : w32 (M1 3 4 - 307) = (l : Int) := by rw [hl]; exact w32_i (by omega) (by omega)
  have w2 : w32 (w32 (3 + (7 + (l : Int))) - 7) = ((3 + l : Nat) : Int) := by rw [w32_i (x := 3 + (7 + (l : Int))) (by omega) (by omega), w32_i (by omega) (by omega)]; omega
  have z : 0 ≤ (l : Int) ∧ (l : Int) < 3 := by omega
  have z6 : 0 ≤ ((3 + l : Nat) : Int) ∧ ((3 + l : Nat) : Int) < 6 := by omega
  have m22 : M1 2 2 = (g : Int) := by rw [f1 2 2 (by omega)]; exact r1
  rw [if_neg (show ¬ M1 3 4 < 307 by omega), if_pos q.2, Option.bind_some, if_neg (show ¬ (1 : Int) = 0 by decide), w1, bI_eq, m22, gH_h hg, if_pos q1, n9, if_neg (show ¬ 7 + (l : Int) < 7 by omega), if_neg (show ¬ 9 < 7 + (l : Int) by omega), w2, bI_eq, gd_t z6, Int.toNat_natCast]
  clear w1 w2
  unfold f_X3_isTold
  rw [gd_t z, gd_t z, Int.toNat_natCast]
  obtain ⟨Ko, Vo, Ao, Bo, wb, lt⟩ := lw
  have fm1 : ∀ a j, g + 12 ≤ a ∧ a ≤ g + 16 → M1 a j = M a j := fun a j h => f1 a j (by omega)
  have fn1 : ∀ a j, 106 ≤ a ∧ a ≤ 111 → N1 a j = N a j := fun a j h => f1' a j (by omega)
  have c15 : M1 (g + 12 + 3) l = M (g + 15) l := fm1 (g + 15) l (by omega)
  have c16 : M1 (g + 12 + 4) l = M (g + 16) l := fm1 (g + 16) l (by omega)
  rw [c15, c16, fn1 106 _ (by omega)]
  rcases lt l l3 with ⟨u1, u2⟩ | ⟨u1, st, K, V, A, B, _, ⟨u3, u4⟩, _, _, u5⟩
  rotate_left
  · have kl : 0 < K.length := by
      cases K with
      | nil => exact absurd u5 (by show ¬ (0 = 1); omega)
      | cons _ _ => rw [List.length_cons]; omega
    obtain ⟨M', N', h1, h2, h3, h4, h5⟩ := no 3
    refine Or.inl ⟨M', N', ?_, Or.inr ?_, h3, h4, h5⟩
    · rw [u3, u4, if_pos (show (st : Int) < ((st + K.length : Nat) : Int) by omega), Option.bind_some, if_neg (show ¬ (1 : Int) = 0 by decide), h1, Option.bind_some, gd_t (Or.inl rfl)]
    · rw [u1, if_neg (show ¬ (1 : Int) = 0 by decide), h2, Option.bind_some, gd_t (Or.inl rfl)]
  rw [if_neg u2, Option.bind_some, if_pos (show (0 : Int) = 0 from rfl), if_pos u1, gd_t z6, bM_eq (upM N1 106 _ _)]
  obtain ⟨M2, N2, e3, e4, ⟨s2, k2, _, t2⟩, f2, f2'⟩ := (k1.upN (a2 := 106) (j := 3 + l) (w := 1) (by omega)).next
  have m6 : M2 (g + 12) 6 = (Ko.length : Int) := by rw [f2 _ _ (by omega), f1 _ _ (by omega)]; exact wb.1.1
  have n21 : N2 88 21 = (Ko.length : Int) := by rw [f2' 88 21 (by omega), up_na (by decide), f1' 88 21 (by omega)]; exact wb.2.2.1.1
  rw [e3, e4, Option.bind_some, Option.bind_some, gd_t z6, n21, bM_eq (upM N2 107 _ _)]
  have eb : f_X3_begin M2 (g + 12) (l : Int) = some (upM (upM M2 (g + 15) l (Ko.length : Int)) (g + 16) l (Ko.length : Int)) := by
    unfold f_X3_begin
    rw [gd_t z, bM_eq, gd_t z, bM_eq, Int.toNat_natCast, up_na (by omega), m6]
  rw [eb, Option.bind_some]
  have k3 : RT' (upM (upM M2 (g + 15) l (Ko.length : Int)) (g + 16) l (Ko.length : Int)) (upM N2 107 (3 + l) (Ko.length : Int)) n s2 := ((k2.upC (by omega)).upC (by omega)).upN (by omega)
  have wb3 : WB (upM (upM M2 (g + 15) l (Ko.length : Int)) (g + 16) l (Ko.length : Int)) (upM N2 107 (3 + l) (Ko.length : Int)) g Ko Vo Ao Bo := by
    have hm : ∀ a j, g + 12 ≤ a ∧ a ≤ g + 14 → upM (upM M2 (g + 15) l (Ko.length : Int)) (g + 16) l (Ko.length : Int) a j = M a j := fun a j h => by rw [up_na (by omega), up_na (by omega), f2 a j (by omega), f1 a j (by omega)]
    have hn : ∀ a j, (a = 88 ∧ 21 ≤ j) ∨ (109 ≤ a ∧ a ≤ 111) → upM N2 107 (3 + l) (Ko.length : Int) a j = N a j := fun a j h => by rw [up_na (by omega), f2' a j (by omega), up_na (by omega), f1' a j (by omega)]
    exact wb.cg (fun j => hm _ _ (by omega)) (fun j => hm _ _ (by omega)) (fun j => hm _ _ (by omega)) (hn _ _ (by omega)) (hn _ _ (by omega)) (fun a j h => hn a j (by omega))
  have F3 : LLC g M (upM (upM M2 (g + 15) l (Ko.length : Int)) (g + 16) l (Ko.length : Int)) := ((f1.k.ll.tr f2.k.ll).up (by omega)).up (by omega)
  have F3' : LLN N (upM N2 107 (3 + l) (Ko.length : Int)) := ((f1'.kl.up (by omega)).tr f2'.kl).up (by omega)
  have cA : ∀ a j, ¬ (a = 3 ∧ 3 ≤ j ∧ j ≤ 6) → ¬ (a = g + 15 ∧ j = l) → ¬ (a = g + 16 ∧ j = l) → upM (upM M2 (g + 15) l (Ko.length : Int)) (g + 16) l (Ko.length : Int) a j = M a j := fun a j h1 h2 h3 => by rw [upM_ne a j h3, upM_ne a j h2, f2 a j h1, f1 a j h1]
  have nA : ∀ a j, ¬ (a = 88 ∧ 7 ≤ j ∧ j ≤ 10) → ¬ (106 ≤ a ∧ a ≤ 107 ∧ j = 3 + l) → upM N2 107 (3 + l) (Ko.length : Int) a j = N a j := fun a j h1 h2 => by rw [upM_ne a j (by omega), f2' a j h1, upM_ne a j (by omega), f1' a j h1]
  have a15 : upM (upM M2 (g + 15) l (Ko.length : Int)) (g + 16) l (Ko.length : Int) (g + 15) l = (Ko.length : Int) := by rw [up_na (by omega), upM_eq]
  have b107 : upM N2 107 (3 + l) (Ko.length : Int) 107 (3 + l) = (Ko.length : Int) := upM_eq
  have b106 : upM N2 107 (3 + l) (Ko.length : Int) 106 (3 + l) = 1 := by rw [up_na (by decide), f2' 106 _ (by omega), upM_eq]
  generalize upM (upM M2 (g + 15) l (Ko.length : Int)) (g + 16) l (Ko.length : Int) = M3 at k3 wb3 F3 cA a15 ⊢
  generalize upM N2 107 (3 + l) (Ko.length : Int) = N3 at k3 wb3 F3' nA b107 b106 ⊢
  rcases q_form hg k3 (by omega) wb3 with ⟨v, M4, N4, p1, p2, p3, p4, p5, p6, p7⟩ | ⟨M4, N4, s, K, V, A, B, p1, p2, p3, p4, p5, p6, p7, p8, p9, p10⟩
  · rw [p1, p2, Option.bind_some, Option.bind_some, if_neg (show ¬ (v, M4).1 = 0 from p3), c_fails, Option.bind_some, gd_t (Or.inl rfl), gd_t z6, bM_eq]
    refine Or.inl ⟨upM (upM M4 2 5 v) 2 6 (M4 3 6), upM N4 108 (3 + l) (N4 88 21), rfl, Or.inl rfl, ⟨?_, ?_⟩, ((F3.tr p6.ll).up (by omega)).up (by omega), (F3'.tr p7.ll).up (by omega)⟩
    · rw [up_ni (by decide), upM_eq, up_na (by decide)]; exact p4.symm
    · rw [upM_eq, up_na (by decide)]; exact p5.symm
  · have m46 : M4 (g + 12) 6 = ((K ++ Ko).length : Int) := p6.1.1
    have n421 : N4 88 21 = ((K ++ Ko).length : Int) := p6.2.2.1.1
    have ee : f_X3_end M4 (g + 12) (l : Int) = some (upM M4 (g + 16) l ((K ++ Ko).length : Int)) := by
      unfold f_X3_end
      rw [gd_t z, bM_eq, Int.toNat_natCast, m46]
    rw [p1, p2, Option.bind_some, Option.bind_some, if_pos rfl, ee, Option.bind_some, gd_t z6, bM_eq, show ((1 : Int), N4).2 88 21 = ((K ++ Ko).length : Int) from n421]
    have ln : (K ++ Ko).length = Ko.length + K.length := by rw [List.length_append]; omega
    have fm4 : ∀ a j, g ≤ a ∧ a ≤ g + 22 → ¬ (g + 12 ≤ a ∧ a ≤ g + 14) → M4 a j = M3 a j := fun a j h1 h2 => p9 a j (by omega) (by omega) (by omega) (by omega) (by omega) (by omega) (by omega) (by omega)
    have fn4 : ∀ a j, 91 ≤ a ∧ a ≤ 108 → N4 a j = N3 a j := fun a j h => p10 a j (by omega) (by omega) (by omega) (by omega)
    refine Or.inr ⟨upM M4 (g + 16) l ((K ++ Ko).length : Int), upM N4 108 (3 + l) ((K ++ Ko).length : Int), rfl, rfl, ⟨⟨s, by omega, (p3.upC (by omega)).upN (by omega)⟩, ?_, ?_, ⟨⟨?_, ?_⟩, ?_, ?_⟩⟩, (F3.tr p9.ll).up (by omega), (F3'.tr p10.ll).up (by omega)⟩
    · refine rd.fr ?_ (fun a h => funext fun j => ?_) (fun j h => ?_) (fun a h => funext fun j => ?_)
      · rw [up_na (by omega), p9 2 2 (by omega) (by omega) (by omega) (by omega) (by omega) (by omega) (by omega) (by omega), cA 2 2 (by omega) (by omega) (by omega)]
      · rw [up_na (by omega), fm4 a j (by omega) (by omega), cA a j (by omega) (by omega) (by omega)]
      · rw [up_na (by decide), p10 88 j (by omega) (by omega) (by omega) (by omega), nA 88 j (by omega) (by omega)]
      · rw [up_na (by omega), fn4 a j (by omega), nA a j (by omega) (by omega)]
    · refine ⟨K ++ Ko, V ++ Vo, A ++ Ao, B ++ Bo, p6.cg (fun j => up_na (by omega)) (fun j => up_na (by omega)) (fun j => up_na (by omega)) (up_na (by decide)) (up_na (by decide)) (fun a j h => up_na (by omega)), fun l' hl' => ?_⟩
      by_cases el : l' = l
      · subst el
        refine Or.inr ⟨?_, Ko.length, K, V, A, B, ⟨[], Ko, [], Vo, [], Ao, [], Bo, ⟨rfl, rfl⟩, ⟨rfl, wb.2.1.2.2⟩, ⟨rfl, wb.2.2.2.2.1.2⟩, rfl, wb.2.2.2.2.2.2⟩, ⟨?_, ?_⟩, ⟨?_, ?_⟩, p7, p8⟩
        · rw [up_na (by decide), fn4 106 _ (by omega)]; exact b106
        · rw [up_na (by omega), fm4 _ _ (by omega) (by omega)]; exact a15
        · rw [upM_eq, ln]
        · rw [up_na (by decide), fn4 107 _ (by omega)]; exact b107
        · rw [upM_eq, ln]
      · refine ((lt l' hl').ap K V A B).cg ?_ ?_ (fun a h => ?_)
        · rw [up_na (by omega), fm4 _ _ (by omega) (by omega), cA _ _ (by omega) (by omega) (by omega)]
        · rw [up_ni (by omega), fm4 _ _ (by omega) (by omega), cA _ _ (by omega) (by omega) (by omega)]
        · rw [upM_ne a _ (by omega), fn4 a _ (by omega), nA a _ (by omega) (by omega)]
    · rw [up_na (by omega), p9 2 5 (by omega) (by omega) (by omega) (by omega) (by omega) (by omega) (by omega) (by omega), cA 2 5 (by omega) (by omega) (by omega)]
    · rw [up_na (by omega), p9 2 6 (by omega) (by omega) (by omega) (by omega) (by omega) (by omega) (by omega) (by omega), cA 2 6 (by omega) (by omega) (by omega)]
    · rw [up_na (by decide), p10 88 4 (by omega) (by omega) (by omega) (by omega), nA 88 4 (by omega) (by omega)]
    · rw [up_na (by decide), p10 88 5 (by omega) (by omega) (by omega) (by omega), nA 88 5 (by omega) (by omega)]
end LAWL

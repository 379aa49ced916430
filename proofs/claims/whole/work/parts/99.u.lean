/-- the second system's side of a formula: signs that wait, places held, knots -/
def NFS (N : MM) (W P : List Int) (n : Nat) (G A B : List Int) : Prop := (N 88 45 = (W.length : Int) ∧ STK (N 112) (W.map cd)) ∧ (N 88 46 = (P.length : Int) ∧ STK (N 113) P) ∧ N 88 21 = (n : Int) ∧ (STK (fun i => N 109 (64 + i)) G ∧ G.length = n) ∧ (STK (fun i => N 110 (64 + i)) A ∧ A.length = n) ∧ (STK (fun i => N 111 (64 + i)) B ∧ B.length = n)
/-- what binding may change -/
def FBN (N' N : MM) : Prop := ∀ a j, ¬ (a = 88 ∧ (j = 21 ∨ j = 45 ∨ j = 46)) → ¬ (109 ≤ a ∧ a ≤ 111 ∧ 64 ≤ j) → a ≠ 113 → N' a j = N a j
theorem FBN.rf {N : MM} : FBN N N := fun _ _ _ _ _ => rfl
theorem FBN.tr {N1 N2 N3 : MM} (h1 : FBN N1 N2) (h2 : FBN N2 N3) : FBN N1 N3 := fun a j x y z => (h1 a j x y z).trans (h2 a j x y z)
theorem m_drop {N : MM} {W P G A B : List Int} {n : Nat} {y : Int} (c : NFS N W (y :: P) n G A B) (h : P.length < 96) : ∃ N', f_X12_dropHeld N = some (y, N') ∧ NFS N' W P n G A B ∧ FBN N' N := by
  obtain ⟨⟨a1, a2⟩, ⟨b1, b2, b3⟩, c1, ⟨d1, d2⟩, ⟨e1, e2⟩, f1, f2⟩ := c
  rw [List.length_cons] at b1
  have z : 0 ≤ (P.length : Int) ∧ (P.length : Int) < 96 := by omega
  have w1 : w32 (N 88 46 - 1) = (P.length : Int) := by rw [b1]; exact wp1 (by omega)
  refine ⟨upM N 88 46 (P.length : Int), ?_, ⟨⟨by rw [up_ni (by decide)]; exact a1, a2.cg (fun j _ => up_na (by decide))⟩, ⟨upM_eq, b3.cg (fun j _ => up_na (by decide))⟩, by rw [up_ni (by decide)]; exact c1, ⟨d1.cg (fun j _ => up_na (by decide)), d2⟩, ⟨e1.cg (fun j _ => up_na (by decide)), e2⟩, f1.cg (fun j _ => up_na (by decide)), f2⟩, fun a j x _ _ => upM_ne a j (by omega)⟩
  unfold f_X12_dropHeld
  rw [bM_eq, w1, upM_eq, gd_t z, Int.toNat_natCast, up_na (by decide), b2]
theorem wn64 {n : Nat} (h : n < 64) : w32 (64 + (n : Int)) = ((64 + n : Nat) : Int) := by rw [w32_i (by omega) (by omega)]; omega
theorem m_grown {D : MM} {W P G A B : List Int} {n : Nat} (c : NFS D W P n G A B) (hn : n < 64) (hs : P.length < 96) (p1 p2 p3 : Int) : ∃ N', f_X12_grown D p1 p2 p3 = some N' ∧ NFS N' W ((n : Int) :: P) (n + 1) (p1 :: G) (p2 :: A) (p3 :: B) ∧ FBN N' D := by
  obtain ⟨⟨a1, a2⟩, ⟨b1, b3⟩, c1, ⟨d1, d2⟩, ⟨e1, e2⟩, f1, f2⟩ := c
  have z : 0 ≤ (P.length : Int) ∧ (P.length : Int) < 96 := by omega
  have zn : 0 ≤ ((64 + n : Nat) : Int) ∧ ((64 + n : Nat) : Int) < 128 := by omega
  refine ⟨upM (upM (upM (upM (upM (upM D 109 (64 + n) p1) 110 (64 + n) p2) 111 (64 + n) p3) 113 P.length (n : Int)) 88 46 ((P.length + 1 : Nat) : Int)) 88 21 ((n + 1 : Nat) : Int), ?_, ⟨⟨?_, ?_⟩, ⟨?_, ?_, ?_⟩, ?_, ⟨⟨?_, ?_⟩, ?_⟩, ⟨⟨?_, ?_⟩, ?_⟩, ⟨?_, ?_⟩, ?_⟩, fun a j x y z => ?_⟩
  · unfold f_X12_grown
    rw [c1, wn64 hn, gd_t zn, bM_eq (upM D _ _ _), Int.toNat_natCast, up_na (a := 109) (by decide), c1, wn64 hn, gd_t zn, bM_eq (upM _ 110 _ _), Int.toNat_natCast, up_na (a := 110) (by decide), up_na (a := 109) (by decide), c1, wn64 hn, gd_t zn, bM_eq (upM _ 111 _ _), Int.toNat_natCast, up_na (a := 111) (by decide), up_na (a := 110) (by decide), up_na (a := 109) (by decide), b1, gd_t z, Int.toNat_natCast, bM_eq (upM _ 113 _ _), up_na (a := 111) (by decide), up_na (a := 110) (by decide), up_na (a := 109) (by decide), c1, up_na (a := 113) (by decide), up_na (a := 111) (by decide), up_na (a := 110) (by decide), up_na (a := 109) (by decide), b1, wi7 (by omega), bM_eq (upM _ 88 46 _), up_ni (by decide), up_na (a := 113) (by decide), up_na (a := 111) (by decide), up_na (a := 110) (by decide), up_na (a := 109) (by decide), c1, wi7 (by omega), bM_eq]
  · rw [up_ni (by decide), up_ni (by decide), up_na (by decide), up_na (by decide), up_na (by decide), up_na (by decide)]; exact a1
  · exact a2.cg (fun j _ => by rw [up_na (by decide), up_na (by decide), up_na (by decide), up_na (by decide), up_na (by decide), up_na (by decide)])
  · rw [up_ni (by decide), upM_eq, List.length_cons]
  · rw [up_na (by decide), up_na (by decide), upM_eq]
  · exact b3.cg (fun j hj => by rw [up_na (by decide), up_na (by decide), up_ni (by omega), up_na (by decide), up_na (by decide), up_na (by decide)])
  · rw [upM_eq]
  · show upM _ 88 21 _ 109 (64 + G.length) = p1
    rw [up_na (by decide), up_na (by decide), up_na (by decide), up_na (by decide), up_na (by decide), d2, upM_eq]
  · exact d1.cg (fun j hj => by show upM _ 88 21 _ 109 (64 + j) = D 109 (64 + j); rw [up_na (by decide), up_na (by decide), up_na (by decide), up_na (by decide), up_na (by decide), up_ni (by omega)])
  · rw [List.length_cons, d2]
  · show upM _ 88 21 _ 110 (64 + A.length) = p2
    rw [up_na (by decide), up_na (by decide), up_na (by decide), up_na (by decide), e2, upM_eq]
  · exact e1.cg (fun j hj => by show upM _ 88 21 _ 110 (64 + j) = D 110 (64 + j); rw [up_na (by decide), up_na (by decide), up_na (by decide), up_na (by decide), up_ni (by omega), up_na (by decide)])
  · rw [List.length_cons, e2]
  · show upM _ 88 21 _ 111 (64 + B.length) = p3
    rw [up_na (by decide), up_na (by decide), up_na (by decide), f2, upM_eq]
  · exact f1.cg (fun j hj => by show upM _ 88 21 _ 111 (64 + j) = D 111 (64 + j); rw [up_na (by decide), up_na (by decide), up_na (by decide), up_ni (by omega), up_na (by decide), up_na (by decide)])
  · rw [List.length_cons, f2]
  · rw [upM_ne a j (by omega), upM_ne a j (by omega), upM_ne a j (by omega), upM_ne a j (by omega), upM_ne a j (by omega), upM_ne a j (by omega)]
/-- two-sided signs -/
def bn : List Int → Nat
  | [] => 0
  | x :: L => (if x = 40 ∨ x = 312 then 0 else 1) + bn L
theorem bn_nz : ∀ W : List Int, bn W ≤ nz W
  | [] => Nat.le_refl 0
  | x :: L => by
    have := bn_nz L
    show (if x = 40 ∨ x = 312 then 0 else 1) + bn L ≤ (if x = 40 then 0 else 1) + nz L
    by_cases q : x = 40
    · rw [if_pos (Or.inl q), if_pos q]; omega
    · rw [if_neg q]; split <;> omega
/-- places held, operands: after the signs of rank p and more are bound -/
def nP (x : Int) (n : Nat) (P : List Int) : List Int := (n : Int) :: (if x = 312 then P.tail else P.tail.tail)
def lA (x : Int) (P : List Int) : Int := if x = 312 then P.headD 0 else P.tail.headD 0
def lB (x : Int) (P : List Int) : Int := if x = 312 then -1 else P.headD 0
def nr (p : Int) : List Int → Nat → Nat
  | [], n => n
  | x :: L, n => if rk x < p then n else nr p L (n + 1)
def pr (p : Int) : List Int → Nat → List Int → List Int
  | [], _, P => P
  | x :: L, n, P => if rk x < p then P else pr p L (n + 1) (nP x n P)
def gr (p : Int) : List Int → List Int → List Int
  | [], G => G
  | x :: L, G => if rk x < p then G else gr p L (cd x :: G)
def ar (p : Int) : List Int → Nat → List Int → List Int → List Int
  | [], _, _, A => A
  | x :: L, n, P, A => if rk x < p then A else ar p L (n + 1) (nP x n P) (lA x P :: A)
def br (p : Int) : List Int → Nat → List Int → List Int → List Int
  | [], _, _, B => B
  | x :: L, n, P, B => if rk x < p then B else br p L (n + 1) (nP x n P) (lB x P :: B)
def bdst (p1 : Int) : MM → Option (MM ⊕ MM) := fun x1 =>
if 0 < (x1 88 45) then
(gd (0 ≤ w32 ((x1 88 45) - 1) ∧ w32 ((x1 88 45) - 1) < (96 : Int)) <|
(f_X12_rank x1 (x1 112 (w32 ((x1 88 45) - 1)).toNat)).bind fun x4 =>
if x4 < p1 then
(some (Sum.inr x1))
else
bM (upM x1 88 45 (w32 ((x1 88 45) - 1))) fun M6 =>
gd (0 ≤ M6 88 45 ∧ M6 88 45 < (96 : Int)) <|
bI (M6 112 (M6 88 45).toNat) fun x8 =>
((if x8 = 2 then
(some ((-1), M6))
else
(f_X12_dropHeld M6).bind fun x10 =>
some (x10.1, x10.2)) : Option (Int × MM)).bind fun x11 =>
(f_X12_dropHeld x11.2).bind fun x12 =>
(f_X12_grown x12.2 x8 x12.1 x11.1).bind fun x13 =>
some (Sum.inl x13))
else
some (Sum.inr x1)
theorem m_bdst {N : MM} {x : Int} {L P G A B : List Int} {n : Nat} {p : Int} (hx : JK x) (x4 : x ≠ 40) (c : NFS N (x :: L) P n G A B) (hn : n < 64) (h7 : L.length < 72) (hP : P.length = bn (x :: L) + 1) (hb : bn (x :: L) ≤ 64) (q : ¬ rk x < p) : ∃ N', bdst p N = some (Sum.inl N') ∧ NFS N' L (nP x n P) (n + 1) (cd x :: G) (lA x P :: A) (lB x P :: B) ∧ FBN N' N := by
  obtain ⟨⟨a1, a2, a3⟩, b, c1, d, e, f⟩ := c
  rw [List.length_cons] at a1
  rw [List.length_map] at a2
  have z : 0 ≤ (L.length : Int) ∧ (L.length : Int) < 96 := by omega
  have w1 : w32 (N 88 45 - 1) = (L.length : Int) := by rw [a1]; exact wp1 (by omega)
  have p0 : 0 < N 88 45 := by rw [a1]; omega
  have c2 : NFS (upM N 88 45 (L.length : Int)) L P n G A B := ⟨⟨upM_eq, a3.cg (fun j _ => up_na (by decide))⟩, ⟨by rw [up_ni (by decide)]; exact b.1, b.2.cg (fun j _ => up_na (by decide))⟩, by rw [up_ni (by decide)]; exact c1, ⟨d.1.cg (fun j _ => up_na (by decide)), d.2⟩, ⟨e.1.cg (fun j _ => up_na (by decide)), e.2⟩, f.1.cg (fun j _ => up_na (by decide)), f.2⟩
  have f2 : FBN (upM N 88 45 (L.length : Int)) N := fun a j x _ _ => upM_ne a j (by omega)
  have hb' : bn (x :: L) = (if x = 40 ∨ x = 312 then 0 else 1) + bn L := rfl
  unfold bdst
  rw [if_pos p0, w1, gd_t z, Int.toNat_natCast, a2, m_rank N hx, Option.bind_some, if_neg q, bM_eq, upM_eq, gd_t z, Int.toNat_natCast, up_na (by decide), a2, bI_eq]
  by_cases o : x = 312
  · rw [if_pos ((cd_not hx).mpr o), Option.bind_some]
    match P, c2, hP with
    | [], _, hP => exact absurd hP (by rw [List.length_nil]; omega)
    | y :: P', c2, hP =>
      rw [List.length_cons] at hP
      obtain ⟨N1, r1, r2, r3⟩ := m_drop c2 (by omega)
      obtain ⟨N2, s1, s2, s3⟩ := m_grown r2 hn (by omega) (cd x) y (-1)
      refine ⟨N2, ?_, ?_, s3.tr (r3.tr f2)⟩
      · show (f_X12_dropHeld (upM N 88 45 (L.length : Int))).bind _ = _
        rw [r1, Option.bind_some]
        show (f_X12_grown N1 (cd x) y (-1)).bind _ = _
        rw [s1, Option.bind_some]
      · unfold nP lA lB
        rw [if_pos o, if_pos o, if_pos o]
        exact s2
  · rw [if_neg (fun z => o ((cd_not hx).mp z))]
    rw [if_neg (by omega)] at hb'
    match P, c2, hP with
    | [], _, hP => exact absurd hP (by rw [List.length_nil]; omega)
    | [y], _, hP => exact absurd hP (by rw [List.length_cons, List.length_nil]; omega)
    | y :: y' :: P', c2, hP =>
      rw [List.length_cons, List.length_cons] at hP
      obtain ⟨N1, r1, r2, r3⟩ := m_drop c2 (by rw [List.length_cons]; omega)
      obtain ⟨N3, t1, t2, t3⟩ := m_drop r2 (by omega)
      obtain ⟨N2, s1, s2, s3⟩ := m_grown t2 hn (by omega) (cd x) y' y
      refine ⟨N2, ?_, ?_, s3.tr (t3.tr (r3.tr f2))⟩
      · rw [r1, Option.bind_some, Option.bind_some]
        show (f_X12_dropHeld N1).bind _ = _
        rw [t1, Option.bind_some]
        show (f_X12_grown N3 (cd x) y' y).bind _ = _
        rw [s1, Option.bind_some]
      · unfold nP lA lB
        rw [if_neg o, if_neg o, if_neg o]
        exact s2
theorem nP_len {x : Int} {n : Nat} {L P : List Int} (x4 : x ≠ 40) (hP : P.length = bn (x :: L) + 1) : (nP x n P).length = bn L + 1 := by
  have hb' : bn (x :: L) = (if x = 40 ∨ x = 312 then 0 else 1) + bn L := rfl
  unfold nP
  by_cases o : x = 312
  · rw [if_pos (Or.inr o)] at hb'
    rw [if_pos o, List.length_cons, List.length_tail]; omega
  · rw [if_neg (by omega)] at hb'
    rw [if_neg o, List.length_cons, List.length_tail, List.length_tail]; omega
theorem m_bd {p : Int} (hp : 1 ≤ p) : ∀ (W P G A B : List Int) (n : Nat) (N : MM) (m : Nat), NFS N W P n G A B → AJ W → W.length < m → W.length ≤ 72 → nz W + n ≤ 64 → P.length = bn W + 1 → ∃ N', lp (bdst p) m N = some N' ∧ NFS N' (wr p W) (pr p W n P) (nr p W n) (gr p W G) (ar p W n P A) (br p W n P B) ∧ FBN N' N
  | W, P, G, A, B, n, N, 0, _, _, h, _, _, _ => absurd h (Nat.not_lt_zero _)
  | [], P, G, A, B, n, N, m + 1, c, _, _, _, _, _ => by
    have e : bdst p N = some (Sum.inr N) := by
      unfold bdst
      rw [c.1.1, if_neg (by simp)]
    exact ⟨N, lp_e m e, c, FBN.rf⟩
  | x :: L, P, G, A, B, n, N, m + 1, c, aj, hm, h7, hk, hP => by
    obtain ⟨j1, j2⟩ := aj
    rw [List.length_cons] at hm h7
    have bz := bn_nz (x :: L)
    by_cases q : rk x < p
    · have e : bdst p N = some (Sum.inr N) := by
        obtain ⟨⟨a1, a2, a3⟩, _⟩ := c
        rw [List.length_cons] at a1
        rw [List.length_map] at a2
        have z : 0 ≤ (L.length : Int) ∧ (L.length : Int) < 96 := by omega
        have w1 : w32 (N 88 45 - 1) = (L.length : Int) := by rw [a1]; exact wp1 (by omega)
        have p0 : 0 < N 88 45 := by rw [a1]; omega
        unfold bdst
        rw [if_pos p0, w1, gd_t z, Int.toNat_natCast, a2, m_rank N j1, Option.bind_some, if_pos q]
      refine ⟨N, lp_e m e, ?_, FBN.rf⟩
      have u1 : wr p (x :: L) = x :: L := if_pos q
      have u2 : pr p (x :: L) n P = P := if_pos q
      have u3 : nr p (x :: L) n = n := if_pos q
      have u4 : gr p (x :: L) G = G := if_pos q
      have u5 : ar p (x :: L) n P A = A := if_pos q
      have u6 : br p (x :: L) n P B = B := if_pos q
      rw [u1, u2, u3, u4, u5, u6]
      exact c
    · have x4 : x ≠ 40 := fun z => q (by rw [z, rk_40]; omega)
      have nz1 : nz (x :: L) = 1 + nz L := by show (if x = 40 then 0 else 1) + nz L = _; rw [if_neg x4]
      obtain ⟨N1, e, r1, r2⟩ := m_bdst j1 x4 c (by omega) (by omega) hP (by omega) q
      obtain ⟨N', s1, s2, s3⟩ := m_bd hp L (nP x n P) (cd x :: G) (lA x P :: A) (lB x P :: B) (n + 1) N1 m r1 j2 (by omega) (by omega) (by omega) (nP_len x4 hP)
      refine ⟨N', by rw [lp_s m e]; exact s1, ?_, s3.tr r2⟩
      have u1 : wr p (x :: L) = wr p L := if_neg q
      have u2 : pr p (x :: L) n P = pr p L (n + 1) (nP x n P) := if_neg q
      have u3 : nr p (x :: L) n = nr p L (n + 1) := if_neg q
      have u4 : gr p (x :: L) G = gr p L (cd x :: G) := if_neg q
      have u5 : ar p (x :: L) n P A = ar p L (n + 1) (nP x n P) (lA x P :: A) := if_neg q
      have u6 : br p (x :: L) n P B = br p L (n + 1) (nP x n P) (lB x P :: B) := if_neg q
      rw [u1, u2, u3, u4, u5, u6]
      exact s2
theorem m_bind {p : Int} (hp : 1 ≤ p) {W P G A B : List Int} {n : Nat} {N : MM} (c : NFS N W P n G A B) (j : AJ W) (h7 : W.length ≤ 72) (hk : nz W + n ≤ 64) (hP : P.length = bn W + 1) : ∃ N', f_X12_bind N p = some N' ∧ NFS N' (wr p W) (pr p W n P) (nr p W n) (gr p W G) (ar p W n P A) (br p W n P B) ∧ FBN N' N :=
  m_bd hp W P G A B n N FU c j (by unfold FU; omega) h7 hk hP

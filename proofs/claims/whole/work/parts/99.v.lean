/-- brackets that are open -/
def nb : List Int → Nat
  | [] => 0
  | x :: L => (if x = 40 then 1 else 0) + nb L
theorem nb_nz : ∀ W : List Int, nb W + nz W = W.length
  | [] => rfl
  | x :: L => by
    have := nb_nz L
    show (if x = 40 then 1 else 0) + nb L + ((if x = 40 then 0 else 1) + nz L) = L.length + 1
    split <;> omega
/-- a compare waits above the last bracket -/
def CT : List Int → Int
  | [] => 0
  | x :: L => if x = 40 then 0 else if rk x = 4 then 1 else CT L
/-- what the class keeps of brackets that are open -/
def CP (row : Nat → Int) : List Int → Prop
  | [] => True
  | x :: L => (x = 40 → row (nb L) = CT L) ∧ CP row L
/-- the top's rank -/
def tp : List Int → Int
  | [] => 0
  | x :: _ => rk x
/-- ranks don't fall towards the top, between brackets -/
def SO : List Int → Prop
  | [] => True
  | x :: L => (x = 40 ∨ tp L ≤ rk x) ∧ SO L
theorem tp_wr (p : Int) (hp : 1 ≤ p) : ∀ W : List Int, tp (wr p W) < p
  | [] => by show (0 : Int) < p; omega
  | x :: L => by
    show tp (if rk x < p then x :: L else wr p L) < p
    by_cases q : rk x < p
    · rw [if_pos q]; exact q
    · rw [if_neg q]; exact tp_wr p hp L
theorem AJ_wr (p : Int) : ∀ W : List Int, AJ W → AJ (wr p W)
  | [], h => h
  | x :: L, h => by
    show AJ (if rk x < p then x :: L else wr p L)
    by_cases q : rk x < p
    · rw [if_pos q]; exact h
    · rw [if_neg q]; exact AJ_wr p L h.2
theorem SO_wr (p : Int) : ∀ W : List Int, SO W → SO (wr p W)
  | [], h => h
  | x :: L, h => by
    show SO (if rk x < p then x :: L else wr p L)
    by_cases q : rk x < p
    · rw [if_pos q]; exact h
    · rw [if_neg q]; exact SO_wr p L h.2
theorem len_wr (p : Int) : ∀ W : List Int, (wr p W).length ≤ W.length
  | [] => Nat.le_refl 0
  | x :: L => by
    show (if rk x < p then x :: L else wr p L).length ≤ L.length + 1
    by_cases q : rk x < p
    · rw [if_pos q]; exact Nat.le_refl _
    · rw [if_neg q]; have := len_wr p L; omega
theorem x_40 {x p : Int} (hp : 1 ≤ p) (q : ¬ rk x < p) : x ≠ 40 := fun z => q (by rw [z, rk_40]; omega)
theorem nb_wr {p : Int} (hp : 1 ≤ p) : ∀ W : List Int, nb (wr p W) = nb W
  | [] => rfl
  | x :: L => by
    show nb (if rk x < p then x :: L else wr p L) = (if x = 40 then 1 else 0) + nb L
    by_cases q : rk x < p
    · rw [if_pos q]; rfl
    · rw [if_neg q, if_neg (x_40 hp q), nb_wr hp L]; omega
theorem CP_wr {p : Int} (row : Nat → Int) : ∀ W : List Int, CP row W → CP row (wr p W)
  | [], h => h
  | x :: L, h => by
    show CP row (if rk x < p then x :: L else wr p L)
    by_cases q : rk x < p
    · rw [if_pos q]; exact h
    · rw [if_neg q]; exact CP_wr row L h.2
theorem nz_wr {p : Int} (hp : 1 ≤ p) : ∀ (W : List Int) (n : Nat), nz (wr p W) + nr p W n = nz W + n
  | [], n => rfl
  | x :: L, n => by
    show nz (if rk x < p then x :: L else wr p L) + (if rk x < p then n else nr p L (n + 1)) = (if x = 40 then 0 else 1) + nz L + n
    by_cases q : rk x < p
    · rw [if_pos q, if_pos q]; rfl
    · rw [if_neg q, if_neg q, if_neg (x_40 hp q), nz_wr hp L]; omega
theorem pr_len {p : Int} (hp : 1 ≤ p) : ∀ (W : List Int) (n : Nat) (P : List Int), P.length = bn W + 1 → (pr p W n P).length = bn (wr p W) + 1
  | [], _, _, h => h
  | x :: L, n, P, h => by
    show (if rk x < p then P else pr p L (n + 1) (nP x n P)).length = bn (if rk x < p then x :: L else wr p L) + 1
    by_cases q : rk x < p
    · rw [if_pos q, if_pos q]; exact h
    · rw [if_neg q, if_neg q]; exact pr_len hp L (n + 1) _ (nP_len (x_40 hp q) h)
theorem kr_len (p : Int) : ∀ (W K : List Int), (kr p W K).length = nr p W K.length
  | [], _ => rfl
  | x :: L, K => by
    show (if rk x < p then K else kr p L (x :: K)).length = if rk x < p then K.length else nr p L (K.length + 1)
    by_cases q : rk x < p
    · rw [if_pos q, if_pos q]
    · rw [if_neg q, if_neg q]; exact kr_len p L (x :: K)
/-- the second system's number of a knot's kind -/
def mk (x : Int) : Int := if x = 2 then 0 else if 313 ≤ x then 1 else cd x
theorem mk_j {x : Int} (h : JK x) : mk x = cd x := by
  rcases h with h | h | h | h | h | h | h | h | h | h | h | h | h | h <;> subst h <;> rfl
theorem gr_mk (p : Int) : ∀ (W K : List Int), AJ W → gr p W (K.map mk) = (kr p W K).map mk
  | [], _, _ => rfl
  | x :: L, K, h => by
    show (if rk x < p then K.map mk else gr p L (cd x :: K.map mk)) = (if rk x < p then K else kr p L (x :: K)).map mk
    by_cases q : rk x < p
    · rw [if_pos q, if_pos q]
    · rw [if_neg q, if_neg q, ← mk_j h.1]; exact gr_mk p L (x :: K) h.2
theorem CT_lo : ∀ W : List Int, SO W → tp W < 4 → CT W = 0
  | [], _, _ => rfl
  | x :: L, h, t => by
    show (if x = 40 then 0 else if rk x = 4 then 1 else CT L) = 0
    have t' : rk x < 4 := t
    by_cases q : x = 40
    · rw [if_pos q]
    · rw [if_neg q, if_neg (by omega)]
      rcases h.1 with h1 | h1
      · exact absurd h1 q
      · exact CT_lo L h.2 (by omega)
theorem CT_hi : ∀ W : List Int, tp W = 4 → CT W = 1
  | [], t => absurd t (by show (0 : Int) ≠ 4; omega)
  | x :: L, t => by
    show (if x = 40 then 0 else if rk x = 4 then 1 else CT L) = 1
    have t' : rk x = 4 := t
    by_cases q : x = 40
    · rw [q, rk_40] at t'; omega
    · rw [if_neg q, if_pos t']
theorem CT_5 : ∀ W : List Int, CT (wr 5 W) = CT W
  | [] => rfl
  | x :: L => by
    show CT (if rk x < 5 then x :: L else wr 5 L) = CT (x :: L)
    by_cases q : rk x < 5
    · rw [if_pos q]
    · rw [if_neg q, CT_5 L]
      show CT L = if x = 40 then 0 else if rk x = 4 then 1 else CT L
      rw [if_neg (x_40 (by omega) q), if_neg (by omega)]
/-- no compare waits: rank 4 releases what rank 5 releases -/
theorem wr_45 : ∀ W : List Int, CT W = 0 → wr 4 W = wr 5 W ∧ (∀ K, kr 4 W K = kr 5 W K) ∧ ∀ V, vr 4 W V = vr 5 W V
  | [], _ => ⟨rfl, fun _ => rfl, fun _ => rfl⟩
  | x :: L, h => by
    have h' : (if x = 40 then 0 else if rk x = 4 then 1 else CT L) = (0 : Int) := h
    by_cases q : rk x < 4
    · have q5 : rk x < 5 := by omega
      refine ⟨?_, fun K => ?_, fun V => ?_⟩
      · show (if rk x < 4 then x :: L else wr 4 L) = if rk x < 5 then x :: L else wr 5 L
        rw [if_pos q, if_pos q5]
      · show (if rk x < 4 then K else _) = if rk x < 5 then K else _
        rw [if_pos q, if_pos q5]
      · show (if rk x < 4 then V else _) = if rk x < 5 then V else _
        rw [if_pos q, if_pos q5]
    · rw [if_neg (x_40 (by omega) q)] at h'
      have n4 : rk x ≠ 4 := fun z => by rw [if_pos z] at h'; omega
      rw [if_neg n4] at h'
      have q5 : ¬ rk x < 5 := by omega
      obtain ⟨i1, i2, i3⟩ := wr_45 L h'
      refine ⟨?_, fun K => ?_, fun V => ?_⟩
      · show (if rk x < 4 then x :: L else wr 4 L) = if rk x < 5 then x :: L else wr 5 L
        rw [if_neg q, if_neg q5, i1]
      · show (if rk x < 4 then K else kr 4 L (x :: K)) = if rk x < 5 then K else kr 5 L (x :: K)
        rw [if_neg q, if_neg q5, i2]
      · show (if rk x < 4 then V else vr 4 L (0 :: V)) = if rk x < 5 then V else vr 5 L (0 :: V)
        rw [if_neg q, if_neg q5, i3]
/-- a knot that stands alone -/
abbrev LF (x : Int) : Prop := x = 2 ∨ (313 ≤ x ∧ x < 320)
/-- the places held, of the knots written since place st -/
def plc (st : Nat) : List Int → List Int
  | [] => []
  | x :: L => if LF x then ((st + L.length : Nat) : Int) :: plc st L else nP x (st + L.length) (plc st L)
/-- knots and operands that fit -/
def OKK (st : Nat) : List Int → List Int → List Int → List Int → Prop
  | [], [], [], [] => True
  | x :: K, v :: V, a :: A, b :: B => OKK st K V A B ∧ ((x = 2 ∧ 0 ≤ v ∧ v ≤ 9999 ∧ a = v) ∨ (313 ≤ x ∧ x < 320 ∧ a = x - 313) ∨ (JK x ∧ x ≠ 40 ∧ a = lA x (plc st K) ∧ b = lB x (plc st K) ∧ (if x = 312 then 1 else 2) ≤ (plc st K).length))
  | _, _, _, _ => False
theorem JK_LF {x : Int} (h : JK x) : ¬ LF x := by
  rcases h with h | h | h | h | h | h | h | h | h | h | h | h | h | h <;> subst h <;> decide
theorem OKK_rel {p : Int} (hp : 1 ≤ p) {st : Nat} : ∀ (W K V A B P : List Int), AJ W → OKK st K V A B → P = plc st K → P.length = bn W + 1 → OKK st (kr p W K) (vr p W V) (ar p W (st + K.length) P A) (br p W (st + K.length) P B) ∧ pr p W (st + K.length) P = plc st (kr p W K)
  | [], K, V, A, B, P, _, h, e, _ => ⟨h, e⟩
  | x :: L, K, V, A, B, P, j, h, e, hl => by
    show OKK st (if rk x < p then K else kr p L (x :: K)) (if rk x < p then V else vr p L (0 :: V)) (if rk x < p then A else ar p L (st + K.length + 1) (nP x (st + K.length) P) (lA x P :: A)) (if rk x < p then B else br p L (st + K.length + 1) (nP x (st + K.length) P) (lB x P :: B)) ∧ (if rk x < p then P else pr p L (st + K.length + 1) (nP x (st + K.length) P)) = plc st (if rk x < p then K else kr p L (x :: K))
    by_cases q : rk x < p
    · rw [if_pos q, if_pos q, if_pos q, if_pos q, if_pos q]; exact ⟨h, e⟩
    · have x4 := x_40 hp q
      rw [if_neg q, if_neg q, if_neg q, if_neg q, if_neg q]
      have hb' : bn (x :: L) = (if x = 40 ∨ x = 312 then 0 else 1) + bn L := rfl
      have pl : nP x (st + K.length) P = plc st (x :: K) := by
        show _ = if LF x then _ else nP x (st + K.length) (plc st K)
        rw [if_neg (JK_LF j.1), e]
      have ok : OKK st (x :: K) (0 :: V) (lA x P :: A) (lB x P :: B) := ⟨h, Or.inr (Or.inr ⟨j.1, x4, by rw [e], by rw [e], by
        rw [← e, hl, hb']
        by_cases o : x = 312
        · rw [if_pos o, if_pos (Or.inr o)]; omega
        · rw [if_neg o, if_neg (by omega)]; omega⟩)⟩
      exact OKK_rel hp L (x :: K) (0 :: V) (lA x P :: A) (lB x P :: B) (nP x (st + K.length) P) j.2 ok pl (nP_len x4 hl)
/-- knots written before stay below -/
theorem kr_ap (p : Int) (K0 : List Int) : ∀ W K : List Int, kr p W (K ++ K0) = kr p W K ++ K0
  | [], _ => rfl
  | x :: L, K => by
    show (if rk x < p then K ++ K0 else kr p L (x :: K ++ K0)) = (if rk x < p then K else kr p L (x :: K)) ++ K0
    by_cases q : rk x < p
    · rw [if_pos q, if_pos q]
    · rw [if_neg q, if_neg q]; exact kr_ap p K0 L (x :: K)
theorem vr_ap (p : Int) (K0 : List Int) : ∀ W K : List Int, vr p W (K ++ K0) = vr p W K ++ K0
  | [], _ => rfl
  | x :: L, K => by
    show (if rk x < p then K ++ K0 else vr p L (0 :: K ++ K0)) = (if rk x < p then K else vr p L (0 :: K)) ++ K0
    by_cases q : rk x < p
    · rw [if_pos q, if_pos q]
    · rw [if_neg q, if_neg q]; exact vr_ap p K0 L (0 :: K)
theorem ar_ap (p : Int) (K0 : List Int) : ∀ (W : List Int) (n : Nat) (P K : List Int), ar p W n P (K ++ K0) = ar p W n P K ++ K0
  | [], _, _, _ => rfl
  | x :: L, n, P, K => by
    show (if rk x < p then K ++ K0 else ar p L (n + 1) (nP x n P) (lA x P :: K ++ K0)) = (if rk x < p then K else ar p L (n + 1) (nP x n P) (lA x P :: K)) ++ K0
    by_cases q : rk x < p
    · rw [if_pos q, if_pos q]
    · rw [if_neg q, if_neg q]; exact ar_ap p K0 L (n + 1) (nP x n P) (lA x P :: K)
theorem br_ap (p : Int) (K0 : List Int) : ∀ (W : List Int) (n : Nat) (P K : List Int), br p W n P (K ++ K0) = br p W n P K ++ K0
  | [], _, _, _ => rfl
  | x :: L, n, P, K => by
    show (if rk x < p then K ++ K0 else br p L (n + 1) (nP x n P) (lB x P :: K ++ K0)) = (if rk x < p then K else br p L (n + 1) (nP x n P) (lB x P :: K)) ++ K0
    by_cases q : rk x < p
    · rw [if_pos q, if_pos q]
    · rw [if_neg q, if_neg q]; exact br_ap p K0 L (n + 1) (nP x n P) (lB x P :: K)

def SH0 : List (Nat × Nat) := [(11, 13), (52, 700), (7, 7), (9, 7), (50, 20), (1, 7), (50, 72), (51, 9), (2, 15), (8, 5), (50, 5), (50, 5), (50, 5), (50, 5), (6, 6), (50, 5), (50, 5), (50, 5), (50, 5), (50, 5), (3, 8), (50, 64), (50, 64), (50, 3), (50, 3), (53, 64), (50, 7), (50, 4), (50, 4), (50, 4), (50, 8), (2, 15), (8, 5), (50, 5), (50, 5), (50, 5), (50, 5), (6, 6), (50, 5), (50, 5), (50, 5), (50, 5), (50, 5), (3, 8), (50, 64), (50, 64), (50, 3), (50, 3), (53, 64), (50, 7), (50, 4), (50, 4), (50, 4), (50, 8), (0, 18), (10, 11), (51, 5), (50, 30), (50, 5), (50, 5), (50, 24), (50, 24), (0, 18), (10, 11), (51, 5), (50, 30), (50, 5), (50, 5), (50, 24), (50, 24), (0, 18), (10, 11), (51, 5), (50, 30), (50, 5), (50, 5), (50, 24), (50, 24), (4, 7), (50, 24), (50, 24), (51, 24), (50, 24), (51, 24), (5, 4), (50, 20), (50, 20), (50, 20), (12, 93), (50, 700), (50, 97), (51, 2), (50, 6), (50, 10), (50, 10), (50, 10), (50, 10), (50, 10), (50, 10), (50, 10), (50, 10), (50, 10), (50, 8), (50, 8), (50, 8), (50, 16), (51, 6), (50, 6), (50, 6), (50, 128), (50, 128), (50, 128), (50, 96), (50, 96), (53, 7), (53, 64), (50, 10), (50, 60), (50, 10), (50, 10), (51, 10), (50, 2), (50, 2), (51, 2), (50, 2), (50, 2), (50, 2), (50, 2), (50, 24), (50, 24), (50, 5), (50, 72), (51, 24), (50, 160), (50, 8), (50, 35), (50, 10), (50, 48), (50, 4)]
def Ext (sh : List (Nat × Nat)) : Prop := ∀ (a : Nat) (q : Nat × Nat), SH0[a]? = some q → sh[a]? = some q
def R0L : List (Nat × Nat × Nat) := [(0, 0, 1), (0, 2, 2), (0, 5, 54), (0, 6, 62), (0, 8, 70), (0, 9, 78), (0, 10, 84), (2, 0, 3), (2, 1, 5), (3, 0, 4), (3, 1, 1), (5, 0, 3), (5, 1, 6), (5, 2, 7), (8, 0, 9), (8, 1, 14), (8, 2, 20), (8, 4, 27), (8, 5, 28), (8, 6, 29), (8, 8, 30), (9, 1, 10), (9, 2, 11), (9, 3, 12), (9, 4, 13), (14, 1, 15), (14, 2, 16), (14, 3, 17), (14, 4, 18), (14, 5, 19), (20, 0, 21), (20, 1, 22), (20, 2, 23), (20, 3, 24), (20, 4, 25), (20, 5, 26), (31, 0, 32), (31, 1, 37), (31, 2, 43), (31, 4, 50), (31, 5, 51), (31, 6, 52), (31, 8, 53), (32, 1, 33), (32, 2, 34), (32, 3, 35), (32, 4, 36), (37, 1, 38), (37, 2, 39), (37, 3, 40), (37, 4, 41), (37, 5, 42), (43, 0, 44), (43, 1, 45), (43, 2, 46), (43, 3, 47), (43, 4, 48), (43, 5, 49), (54, 0, 55), (54, 7, 56), (54, 8, 57), (54, 9, 58), (54, 10, 59), (54, 11, 60), (54, 12, 61), (62, 0, 63), (62, 7, 64), (62, 8, 65), (62, 9, 66), (62, 10, 67), (62, 11, 68), (62, 12, 69), (70, 0, 71), (70, 7, 72), (70, 8, 73), (70, 9, 74), (70, 10, 75), (70, 11, 76), (70, 12, 77), (78, 2, 79), (78, 3, 80), (78, 4, 81), (78, 5, 82), (78, 6, 83), (84, 1, 85), (84, 2, 86), (84, 3, 87), (88, 0, 89), (88, 3, 90), (88, 22, 91), (88, 23, 92), (88, 24, 93), (88, 25, 94), (88, 26, 95), (88, 27, 96), (88, 28, 97), (88, 29, 98), (88, 30, 99), (88, 31, 100), (88, 32, 101), (88, 33, 102), (88, 34, 103), (88, 35, 104), (88, 36, 105), (88, 37, 106), (88, 38, 107), (88, 39, 108), (88, 40, 109), (88, 41, 110), (88, 42, 111), (88, 43, 112), (88, 44, 113), (88, 51, 114), (88, 52, 115), (88, 54, 116), (88, 55, 117), (88, 56, 118), (88, 57, 119), (88, 58, 120), (88, 59, 121), (88, 60, 122), (88, 61, 123), (88, 62, 124), (88, 63, 125), (88, 64, 126), (88, 65, 127), (88, 66, 128), (88, 67, 129), (88, 68, 130), (88, 82, 131), (88, 83, 132), (88, 86, 133), (88, 88, 134), (88, 89, 135), (88, 90, 136), (88, 91, 137), (88, 92, 138)]
def Links (R : RM) : Prop := ∀ q ∈ R0L, R q.1 q.2.1 = some q.2.2
theorem lmem {x : Nat × Nat × Nat} (h : R0L.any (fun q => decide (q = x)) = true) : x ∈ R0L := by
  obtain ⟨q, hq, e⟩ := List.any_eq_true.mp h
  rw [← of_decide_eq_true e]
  exact hq
theorem sh_lt {a : Nat} {q : Nat × Nat} (h : SH0[a]? = some q) : a < 139 := (List.getElem?_eq_some_iff.mp h).1
theorem hks {h : Nat} (c : h = 8 ∨ h = 31) : SH0[h]? = some (2, 15) := by rcases c with rfl | rfl <;> rfl
theorem hkp {h : Nat} (c : h = 8 ∨ h = 31) : 0 < h := by omega
theorem hkq {h : Nat} (c : SH0[h]? = some (2, 15)) : 0 < h := by
  rcases Nat.eq_zero_or_pos h with e | e
  · subst e; exact absurd c (by decide)
  · exact e
theorem lq_0_0 : ∀ a, a < 139 → SH0[a]? = some (0, 18) → R0L.any (fun q => decide (q = (a, 0, a + 1))) = true := by decide +kernel
theorem lk_0_0 {R : RM} {a : Nat} (hL : Links R) (h : SH0[a]? = some (0, 18)) : R a 0 = some (a + 1) := hL (a, 0, a + 1) (lmem (lq_0_0 a (sh_lt h) h))
theorem sq_0_0 : ∀ a, a < 139 → SH0[a]? = some (0, 18) → SH0[a + 1]? = some (10, 11) := by decide +kernel
theorem sk_0_0 {a : Nat} (h : SH0[a]? = some (0, 18)) : SH0[a + 1]? = some (10, 11) := sq_0_0 a (sh_lt h) h
theorem lq_0_7 : ∀ a, a < 139 → SH0[a]? = some (0, 18) → R0L.any (fun q => decide (q = (a, 7, a + 2))) = true := by decide +kernel
theorem lk_0_7 {R : RM} {a : Nat} (hL : Links R) (h : SH0[a]? = some (0, 18)) : R a 7 = some (a + 2) := hL (a, 7, a + 2) (lmem (lq_0_7 a (sh_lt h) h))
theorem sq_0_7 : ∀ a, a < 139 → SH0[a]? = some (0, 18) → SH0[a + 2]? = some (51, 5) := by decide +kernel
theorem sk_0_7 {a : Nat} (h : SH0[a]? = some (0, 18)) : SH0[a + 2]? = some (51, 5) := sq_0_7 a (sh_lt h) h
theorem lq_0_8 : ∀ a, a < 139 → SH0[a]? = some (0, 18) → R0L.any (fun q => decide (q = (a, 8, a + 3))) = true := by decide +kernel
theorem lk_0_8 {R : RM} {a : Nat} (hL : Links R) (h : SH0[a]? = some (0, 18)) : R a 8 = some (a + 3) := hL (a, 8, a + 3) (lmem (lq_0_8 a (sh_lt h) h))
theorem sq_0_8 : ∀ a, a < 139 → SH0[a]? = some (0, 18) → SH0[a + 3]? = some (50, 30) := by decide +kernel
theorem sk_0_8 {a : Nat} (h : SH0[a]? = some (0, 18)) : SH0[a + 3]? = some (50, 30) := sq_0_8 a (sh_lt h) h
theorem lq_0_9 : ∀ a, a < 139 → SH0[a]? = some (0, 18) → R0L.any (fun q => decide (q = (a, 9, a + 4))) = true := by decide +kernel
theorem lk_0_9 {R : RM} {a : Nat} (hL : Links R) (h : SH0[a]? = some (0, 18)) : R a 9 = some (a + 4) := hL (a, 9, a + 4) (lmem (lq_0_9 a (sh_lt h) h))
theorem sq_0_9 : ∀ a, a < 139 → SH0[a]? = some (0, 18) → SH0[a + 4]? = some (50, 5) := by decide +kernel
theorem sk_0_9 {a : Nat} (h : SH0[a]? = some (0, 18)) : SH0[a + 4]? = some (50, 5) := sq_0_9 a (sh_lt h) h
theorem lq_0_10 : ∀ a, a < 139 → SH0[a]? = some (0, 18) → R0L.any (fun q => decide (q = (a, 10, a + 5))) = true := by decide +kernel
theorem lk_0_10 {R : RM} {a : Nat} (hL : Links R) (h : SH0[a]? = some (0, 18)) : R a 10 = some (a + 5) := hL (a, 10, a + 5) (lmem (lq_0_10 a (sh_lt h) h))
theorem sq_0_10 : ∀ a, a < 139 → SH0[a]? = some (0, 18) → SH0[a + 5]? = some (50, 5) := by decide +kernel
theorem sk_0_10 {a : Nat} (h : SH0[a]? = some (0, 18)) : SH0[a + 5]? = some (50, 5) := sq_0_10 a (sh_lt h) h
theorem lq_0_11 : ∀ a, a < 139 → SH0[a]? = some (0, 18) → R0L.any (fun q => decide (q = (a, 11, a + 6))) = true := by decide +kernel
theorem lk_0_11 {R : RM} {a : Nat} (hL : Links R) (h : SH0[a]? = some (0, 18)) : R a 11 = some (a + 6) := hL (a, 11, a + 6) (lmem (lq_0_11 a (sh_lt h) h))
theorem sq_0_11 : ∀ a, a < 139 → SH0[a]? = some (0, 18) → SH0[a + 6]? = some (50, 24) := by decide +kernel
theorem sk_0_11 {a : Nat} (h : SH0[a]? = some (0, 18)) : SH0[a + 6]? = some (50, 24) := sq_0_11 a (sh_lt h) h
theorem lq_0_12 : ∀ a, a < 139 → SH0[a]? = some (0, 18) → R0L.any (fun q => decide (q = (a, 12, a + 7))) = true := by decide +kernel
theorem lk_0_12 {R : RM} {a : Nat} (hL : Links R) (h : SH0[a]? = some (0, 18)) : R a 12 = some (a + 7) := hL (a, 12, a + 7) (lmem (lq_0_12 a (sh_lt h) h))
theorem sq_0_12 : ∀ a, a < 139 → SH0[a]? = some (0, 18) → SH0[a + 7]? = some (50, 24) := by decide +kernel
theorem sk_0_12 {a : Nat} (h : SH0[a]? = some (0, 18)) : SH0[a + 7]? = some (50, 24) := sq_0_12 a (sh_lt h) h
theorem sk_1 : SH0[5]? = some (1, 7) := by decide +kernel
theorem lk_1_0 {R : RM} (hL : Links R) : R 5 0 = some 3 := hL (5, 0, 3) (by decide +kernel)
theorem sk_1_0 : SH0[3]? = some (9, 7) := by decide +kernel
theorem lk_1_1 {R : RM} (hL : Links R) : R 5 1 = some 6 := hL (5, 1, 6) (by decide +kernel)
theorem sk_1_1 : SH0[6]? = some (50, 72) := by decide +kernel
theorem lk_1_2 {R : RM} (hL : Links R) : R 5 2 = some 7 := hL (5, 2, 7) (by decide +kernel)
theorem sk_1_2 : SH0[7]? = some (51, 9) := by decide +kernel
theorem lq_2_0 : ∀ a, a < 139 → SH0[a]? = some (2, 15) → R0L.any (fun q => decide (q = (a, 0, a + 1))) = true := by decide +kernel
theorem lk_2_0 {R : RM} {a : Nat} (hL : Links R) (h : SH0[a]? = some (2, 15)) : R a 0 = some (a + 1) := hL (a, 0, a + 1) (lmem (lq_2_0 a (sh_lt h) h))
theorem sq_2_0 : ∀ a, a < 139 → SH0[a]? = some (2, 15) → SH0[a + 1]? = some (8, 5) := by decide +kernel
theorem sk_2_0 {a : Nat} (h : SH0[a]? = some (2, 15)) : SH0[a + 1]? = some (8, 5) := sq_2_0 a (sh_lt h) h
theorem lq_2_1 : ∀ a, a < 139 → SH0[a]? = some (2, 15) → R0L.any (fun q => decide (q = (a, 1, a + 6))) = true := by decide +kernel
theorem lk_2_1 {R : RM} {a : Nat} (hL : Links R) (h : SH0[a]? = some (2, 15)) : R a 1 = some (a + 6) := hL (a, 1, a + 6) (lmem (lq_2_1 a (sh_lt h) h))
theorem sq_2_1 : ∀ a, a < 139 → SH0[a]? = some (2, 15) → SH0[a + 6]? = some (6, 6) := by decide +kernel
theorem sk_2_1 {a : Nat} (h : SH0[a]? = some (2, 15)) : SH0[a + 6]? = some (6, 6) := sq_2_1 a (sh_lt h) h
theorem lq_2_2 : ∀ a, a < 139 → SH0[a]? = some (2, 15) → R0L.any (fun q => decide (q = (a, 2, a + 12))) = true := by decide +kernel
theorem lk_2_2 {R : RM} {a : Nat} (hL : Links R) (h : SH0[a]? = some (2, 15)) : R a 2 = some (a + 12) := hL (a, 2, a + 12) (lmem (lq_2_2 a (sh_lt h) h))
theorem sq_2_2 : ∀ a, a < 139 → SH0[a]? = some (2, 15) → SH0[a + 12]? = some (3, 8) := by decide +kernel
theorem sk_2_2 {a : Nat} (h : SH0[a]? = some (2, 15)) : SH0[a + 12]? = some (3, 8) := sq_2_2 a (sh_lt h) h
theorem lq_2_4 : ∀ a, a < 139 → SH0[a]? = some (2, 15) → R0L.any (fun q => decide (q = (a, 4, a + 19))) = true := by decide +kernel
theorem lk_2_4 {R : RM} {a : Nat} (hL : Links R) (h : SH0[a]? = some (2, 15)) : R a 4 = some (a + 19) := hL (a, 4, a + 19) (lmem (lq_2_4 a (sh_lt h) h))
theorem sq_2_4 : ∀ a, a < 139 → SH0[a]? = some (2, 15) → SH0[a + 19]? = some (50, 4) := by decide +kernel
theorem sk_2_4 {a : Nat} (h : SH0[a]? = some (2, 15)) : SH0[a + 19]? = some (50, 4) := sq_2_4 a (sh_lt h) h
theorem lq_2_5 : ∀ a, a < 139 → SH0[a]? = some (2, 15) → R0L.any (fun q => decide (q = (a, 5, a + 20))) = true := by decide +kernel
theorem lk_2_5 {R : RM} {a : Nat} (hL : Links R) (h : SH0[a]? = some (2, 15)) : R a 5 = some (a + 20) := hL (a, 5, a + 20) (lmem (lq_2_5 a (sh_lt h) h))
theorem sq_2_5 : ∀ a, a < 139 → SH0[a]? = some (2, 15) → SH0[a + 20]? = some (50, 4) := by decide +kernel
theorem sk_2_5 {a : Nat} (h : SH0[a]? = some (2, 15)) : SH0[a + 20]? = some (50, 4) := sq_2_5 a (sh_lt h) h
theorem lq_2_6 : ∀ a, a < 139 → SH0[a]? = some (2, 15) → R0L.any (fun q => decide (q = (a, 6, a + 21))) = true := by decide +kernel
theorem lk_2_6 {R : RM} {a : Nat} (hL : Links R) (h : SH0[a]? = some (2, 15)) : R a 6 = some (a + 21) := hL (a, 6, a + 21) (lmem (lq_2_6 a (sh_lt h) h))
theorem sq_2_6 : ∀ a, a < 139 → SH0[a]? = some (2, 15) → SH0[a + 21]? = some (50, 4) := by decide +kernel
theorem sk_2_6 {a : Nat} (h : SH0[a]? = some (2, 15)) : SH0[a + 21]? = some (50, 4) := sq_2_6 a (sh_lt h) h
theorem lq_2_8 : ∀ a, a < 139 → SH0[a]? = some (2, 15) → R0L.any (fun q => decide (q = (a, 8, a + 22))) = true := by decide +kernel
theorem lk_2_8 {R : RM} {a : Nat} (hL : Links R) (h : SH0[a]? = some (2, 15)) : R a 8 = some (a + 22) := hL (a, 8, a + 22) (lmem (lq_2_8 a (sh_lt h) h))
theorem sq_2_8 : ∀ a, a < 139 → SH0[a]? = some (2, 15) → SH0[a + 22]? = some (50, 8) := by decide +kernel
theorem sk_2_8 {a : Nat} (h : SH0[a]? = some (2, 15)) : SH0[a + 22]? = some (50, 8) := sq_2_8 a (sh_lt h) h
theorem lq_3_0 : ∀ a, a < 139 → SH0[a]? = some (3, 8) → R0L.any (fun q => decide (q = (a, 0, a + 1))) = true := by decide +kernel
theorem lk_3_0 {R : RM} {a : Nat} (hL : Links R) (h : SH0[a]? = some (3, 8)) : R a 0 = some (a + 1) := hL (a, 0, a + 1) (lmem (lq_3_0 a (sh_lt h) h))
theorem sq_3_0 : ∀ a, a < 139 → SH0[a]? = some (3, 8) → SH0[a + 1]? = some (50, 64) := by decide +kernel
theorem sk_3_0 {a : Nat} (h : SH0[a]? = some (3, 8)) : SH0[a + 1]? = some (50, 64) := sq_3_0 a (sh_lt h) h
theorem lq_3_1 : ∀ a, a < 139 → SH0[a]? = some (3, 8) → R0L.any (fun q => decide (q = (a, 1, a + 2))) = true := by decide +kernel
theorem lk_3_1 {R : RM} {a : Nat} (hL : Links R) (h : SH0[a]? = some (3, 8)) : R a 1 = some (a + 2) := hL (a, 1, a + 2) (lmem (lq_3_1 a (sh_lt h) h))
theorem sq_3_1 : ∀ a, a < 139 → SH0[a]? = some (3, 8) → SH0[a + 2]? = some (50, 64) := by decide +kernel
theorem sk_3_1 {a : Nat} (h : SH0[a]? = some (3, 8)) : SH0[a + 2]? = some (50, 64) := sq_3_1 a (sh_lt h) h
theorem lq_3_2 : ∀ a, a < 139 → SH0[a]? = some (3, 8) → R0L.any (fun q => decide (q = (a, 2, a + 3))) = true := by decide +kernel
theorem lk_3_2 {R : RM} {a : Nat} (hL : Links R) (h : SH0[a]? = some (3, 8)) : R a 2 = some (a + 3) := hL (a, 2, a + 3) (lmem (lq_3_2 a (sh_lt h) h))
theorem sq_3_2 : ∀ a, a < 139 → SH0[a]? = some (3, 8) → SH0[a + 3]? = some (50, 3) := by decide +kernel
theorem sk_3_2 {a : Nat} (h : SH0[a]? = some (3, 8)) : SH0[a + 3]? = some (50, 3) := sq_3_2 a (sh_lt h) h
theorem lq_3_3 : ∀ a, a < 139 → SH0[a]? = some (3, 8) → R0L.any (fun q => decide (q = (a, 3, a + 4))) = true := by decide +kernel
theorem lk_3_3 {R : RM} {a : Nat} (hL : Links R) (h : SH0[a]? = some (3, 8)) : R a 3 = some (a + 4) := hL (a, 3, a + 4) (lmem (lq_3_3 a (sh_lt h) h))
theorem sq_3_3 : ∀ a, a < 139 → SH0[a]? = some (3, 8) → SH0[a + 4]? = some (50, 3) := by decide +kernel
theorem sk_3_3 {a : Nat} (h : SH0[a]? = some (3, 8)) : SH0[a + 4]? = some (50, 3) := sq_3_3 a (sh_lt h) h
theorem lq_3_4 : ∀ a, a < 139 → SH0[a]? = some (3, 8) → R0L.any (fun q => decide (q = (a, 4, a + 5))) = true := by decide +kernel
theorem lk_3_4 {R : RM} {a : Nat} (hL : Links R) (h : SH0[a]? = some (3, 8)) : R a 4 = some (a + 5) := hL (a, 4, a + 5) (lmem (lq_3_4 a (sh_lt h) h))
theorem sq_3_4 : ∀ a, a < 139 → SH0[a]? = some (3, 8) → SH0[a + 5]? = some (53, 64) := by decide +kernel
theorem sk_3_4 {a : Nat} (h : SH0[a]? = some (3, 8)) : SH0[a + 5]? = some (53, 64) := sq_3_4 a (sh_lt h) h
theorem lq_3_5 : ∀ a, a < 139 → SH0[a]? = some (3, 8) → R0L.any (fun q => decide (q = (a, 5, a + 6))) = true := by decide +kernel
theorem lk_3_5 {R : RM} {a : Nat} (hL : Links R) (h : SH0[a]? = some (3, 8)) : R a 5 = some (a + 6) := hL (a, 5, a + 6) (lmem (lq_3_5 a (sh_lt h) h))
theorem sq_3_5 : ∀ a, a < 139 → SH0[a]? = some (3, 8) → SH0[a + 6]? = some (50, 7) := by decide +kernel
theorem sk_3_5 {a : Nat} (h : SH0[a]? = some (3, 8)) : SH0[a + 6]? = some (50, 7) := sq_3_5 a (sh_lt h) h
theorem sk_4 : SH0[78]? = some (4, 7) := by decide +kernel
theorem lk_4_2 {R : RM} (hL : Links R) : R 78 2 = some 79 := hL (78, 2, 79) (by decide +kernel)
theorem sk_4_2 : SH0[79]? = some (50, 24) := by decide +kernel
theorem lk_4_3 {R : RM} (hL : Links R) : R 78 3 = some 80 := hL (78, 3, 80) (by decide +kernel)
theorem sk_4_3 : SH0[80]? = some (50, 24) := by decide +kernel
theorem lk_4_4 {R : RM} (hL : Links R) : R 78 4 = some 81 := hL (78, 4, 81) (by decide +kernel)
theorem sk_4_4 : SH0[81]? = some (51, 24) := by decide +kernel
theorem lk_4_5 {R : RM} (hL : Links R) : R 78 5 = some 82 := hL (78, 5, 82) (by decide +kernel)
theorem sk_4_5 : SH0[82]? = some (50, 24) := by decide +kernel
theorem lk_4_6 {R : RM} (hL : Links R) : R 78 6 = some 83 := hL (78, 6, 83) (by decide +kernel)
theorem sk_4_6 : SH0[83]? = some (51, 24) := by decide +kernel
theorem sk_5 : SH0[84]? = some (5, 4) := by decide +kernel
theorem lk_5_1 {R : RM} (hL : Links R) : R 84 1 = some 85 := hL (84, 1, 85) (by decide +kernel)
theorem sk_5_1 : SH0[85]? = some (50, 20) := by decide +kernel
theorem lk_5_2 {R : RM} (hL : Links R) : R 84 2 = some 86 := hL (84, 2, 86) (by decide +kernel)
theorem sk_5_2 : SH0[86]? = some (50, 20) := by decide +kernel
theorem lk_5_3 {R : RM} (hL : Links R) : R 84 3 = some 87 := hL (84, 3, 87) (by decide +kernel)
theorem sk_5_3 : SH0[87]? = some (50, 20) := by decide +kernel
theorem lq_6_1 : ∀ a, a < 139 → SH0[a]? = some (6, 6) → R0L.any (fun q => decide (q = (a, 1, a + 1))) = true := by decide +kernel
theorem lk_6_1 {R : RM} {a : Nat} (hL : Links R) (h : SH0[a]? = some (6, 6)) : R a 1 = some (a + 1) := hL (a, 1, a + 1) (lmem (lq_6_1 a (sh_lt h) h))
theorem sq_6_1 : ∀ a, a < 139 → SH0[a]? = some (6, 6) → SH0[a + 1]? = some (50, 5) := by decide +kernel
theorem sk_6_1 {a : Nat} (h : SH0[a]? = some (6, 6)) : SH0[a + 1]? = some (50, 5) := sq_6_1 a (sh_lt h) h
theorem lq_6_2 : ∀ a, a < 139 → SH0[a]? = some (6, 6) → R0L.any (fun q => decide (q = (a, 2, a + 2))) = true := by decide +kernel
theorem lk_6_2 {R : RM} {a : Nat} (hL : Links R) (h : SH0[a]? = some (6, 6)) : R a 2 = some (a + 2) := hL (a, 2, a + 2) (lmem (lq_6_2 a (sh_lt h) h))
theorem sq_6_2 : ∀ a, a < 139 → SH0[a]? = some (6, 6) → SH0[a + 2]? = some (50, 5) := by decide +kernel
theorem sk_6_2 {a : Nat} (h : SH0[a]? = some (6, 6)) : SH0[a + 2]? = some (50, 5) := sq_6_2 a (sh_lt h) h
theorem lq_6_3 : ∀ a, a < 139 → SH0[a]? = some (6, 6) → R0L.any (fun q => decide (q = (a, 3, a + 3))) = true := by decide +kernel
theorem lk_6_3 {R : RM} {a : Nat} (hL : Links R) (h : SH0[a]? = some (6, 6)) : R a 3 = some (a + 3) := hL (a, 3, a + 3) (lmem (lq_6_3 a (sh_lt h) h))
theorem sq_6_3 : ∀ a, a < 139 → SH0[a]? = some (6, 6) → SH0[a + 3]? = some (50, 5) := by decide +kernel
theorem sk_6_3 {a : Nat} (h : SH0[a]? = some (6, 6)) : SH0[a + 3]? = some (50, 5) := sq_6_3 a (sh_lt h) h
theorem lq_6_4 : ∀ a, a < 139 → SH0[a]? = some (6, 6) → R0L.any (fun q => decide (q = (a, 4, a + 4))) = true := by decide +kernel
theorem lk_6_4 {R : RM} {a : Nat} (hL : Links R) (h : SH0[a]? = some (6, 6)) : R a 4 = some (a + 4) := hL (a, 4, a + 4) (lmem (lq_6_4 a (sh_lt h) h))
theorem sq_6_4 : ∀ a, a < 139 → SH0[a]? = some (6, 6) → SH0[a + 4]? = some (50, 5) := by decide +kernel
theorem sk_6_4 {a : Nat} (h : SH0[a]? = some (6, 6)) : SH0[a + 4]? = some (50, 5) := sq_6_4 a (sh_lt h) h
theorem lq_6_5 : ∀ a, a < 139 → SH0[a]? = some (6, 6) → R0L.any (fun q => decide (q = (a, 5, a + 5))) = true := by decide +kernel
theorem lk_6_5 {R : RM} {a : Nat} (hL : Links R) (h : SH0[a]? = some (6, 6)) : R a 5 = some (a + 5) := hL (a, 5, a + 5) (lmem (lq_6_5 a (sh_lt h) h))
theorem sq_6_5 : ∀ a, a < 139 → SH0[a]? = some (6, 6) → SH0[a + 5]? = some (50, 5) := by decide +kernel
theorem sk_6_5 {a : Nat} (h : SH0[a]? = some (6, 6)) : SH0[a + 5]? = some (50, 5) := sq_6_5 a (sh_lt h) h
theorem sk_7 : SH0[2]? = some (7, 7) := by decide +kernel
theorem lk_7_0 {R : RM} (hL : Links R) : R 2 0 = some 3 := hL (2, 0, 3) (by decide +kernel)
theorem sk_7_0 : SH0[3]? = some (9, 7) := by decide +kernel
theorem lk_7_1 {R : RM} (hL : Links R) : R 2 1 = some 5 := hL (2, 1, 5) (by decide +kernel)
theorem sk_7_1 : SH0[5]? = some (1, 7) := by decide +kernel
theorem lq_8_1 : ∀ a, a < 139 → SH0[a]? = some (8, 5) → R0L.any (fun q => decide (q = (a, 1, a + 1))) = true := by decide +kernel
theorem lk_8_1 {R : RM} {a : Nat} (hL : Links R) (h : SH0[a]? = some (8, 5)) : R a 1 = some (a + 1) := hL (a, 1, a + 1) (lmem (lq_8_1 a (sh_lt h) h))
theorem sq_8_1 : ∀ a, a < 139 → SH0[a]? = some (8, 5) → SH0[a + 1]? = some (50, 5) := by decide +kernel
theorem sk_8_1 {a : Nat} (h : SH0[a]? = some (8, 5)) : SH0[a + 1]? = some (50, 5) := sq_8_1 a (sh_lt h) h
theorem lq_8_2 : ∀ a, a < 139 → SH0[a]? = some (8, 5) → R0L.any (fun q => decide (q = (a, 2, a + 2))) = true := by decide +kernel
theorem lk_8_2 {R : RM} {a : Nat} (hL : Links R) (h : SH0[a]? = some (8, 5)) : R a 2 = some (a + 2) := hL (a, 2, a + 2) (lmem (lq_8_2 a (sh_lt h) h))
theorem sq_8_2 : ∀ a, a < 139 → SH0[a]? = some (8, 5) → SH0[a + 2]? = some (50, 5) := by decide +kernel
theorem sk_8_2 {a : Nat} (h : SH0[a]? = some (8, 5)) : SH0[a + 2]? = some (50, 5) := sq_8_2 a (sh_lt h) h
theorem lq_8_3 : ∀ a, a < 139 → SH0[a]? = some (8, 5) → R0L.any (fun q => decide (q = (a, 3, a + 3))) = true := by decide +kernel
theorem lk_8_3 {R : RM} {a : Nat} (hL : Links R) (h : SH0[a]? = some (8, 5)) : R a 3 = some (a + 3) := hL (a, 3, a + 3) (lmem (lq_8_3 a (sh_lt h) h))
theorem sq_8_3 : ∀ a, a < 139 → SH0[a]? = some (8, 5) → SH0[a + 3]? = some (50, 5) := by decide +kernel
theorem sk_8_3 {a : Nat} (h : SH0[a]? = some (8, 5)) : SH0[a + 3]? = some (50, 5) := sq_8_3 a (sh_lt h) h
theorem lq_8_4 : ∀ a, a < 139 → SH0[a]? = some (8, 5) → R0L.any (fun q => decide (q = (a, 4, a + 4))) = true := by decide +kernel
theorem lk_8_4 {R : RM} {a : Nat} (hL : Links R) (h : SH0[a]? = some (8, 5)) : R a 4 = some (a + 4) := hL (a, 4, a + 4) (lmem (lq_8_4 a (sh_lt h) h))
theorem sq_8_4 : ∀ a, a < 139 → SH0[a]? = some (8, 5) → SH0[a + 4]? = some (50, 5) := by decide +kernel
theorem sk_8_4 {a : Nat} (h : SH0[a]? = some (8, 5)) : SH0[a + 4]? = some (50, 5) := sq_8_4 a (sh_lt h) h
theorem sk_9 : SH0[3]? = some (9, 7) := by decide +kernel
theorem lk_9_0 {R : RM} (hL : Links R) : R 3 0 = some 4 := hL (3, 0, 4) (by decide +kernel)
theorem sk_9_0 : SH0[4]? = some (50, 20) := by decide +kernel
theorem lk_9_1 {R : RM} (hL : Links R) : R 3 1 = some 1 := hL (3, 1, 1) (by decide +kernel)
theorem sk_9_1 : SH0[1]? = some (52, 700) := by decide +kernel
theorem sk_11 : SH0[0]? = some (11, 13) := by decide +kernel
theorem lk_11_0 {R : RM} (hL : Links R) : R 0 0 = some 1 := hL (0, 0, 1) (by decide +kernel)
theorem sk_11_0 : SH0[1]? = some (52, 700) := by decide +kernel
theorem lk_11_2 {R : RM} (hL : Links R) : R 0 2 = some 2 := hL (0, 2, 2) (by decide +kernel)
theorem sk_11_2 : SH0[2]? = some (7, 7) := by decide +kernel
theorem lk_11_5 {R : RM} (hL : Links R) : R 0 5 = some 54 := hL (0, 5, 54) (by decide +kernel)
theorem sk_11_5 : SH0[54]? = some (0, 18) := by decide +kernel
theorem lk_11_6 {R : RM} (hL : Links R) : R 0 6 = some 62 := hL (0, 6, 62) (by decide +kernel)
theorem sk_11_6 : SH0[62]? = some (0, 18) := by decide +kernel
theorem lk_11_8 {R : RM} (hL : Links R) : R 0 8 = some 70 := hL (0, 8, 70) (by decide +kernel)
theorem sk_11_8 : SH0[70]? = some (0, 18) := by decide +kernel
theorem lk_11_9 {R : RM} (hL : Links R) : R 0 9 = some 78 := hL (0, 9, 78) (by decide +kernel)
theorem sk_11_9 : SH0[78]? = some (4, 7) := by decide +kernel
theorem lk_11_10 {R : RM} (hL : Links R) : R 0 10 = some 84 := hL (0, 10, 84) (by decide +kernel)
theorem sk_11_10 : SH0[84]? = some (5, 4) := by decide +kernel
theorem sk_12 : SH0[88]? = some (12, 93) := by decide +kernel
theorem lk_12_0 {R : RM} (hL : Links R) : R 88 0 = some 89 := hL (88, 0, 89) (by decide +kernel)
theorem sk_12_0 : SH0[89]? = some (50, 700) := by decide +kernel
theorem lk_12_3 {R : RM} (hL : Links R) : R 88 3 = some 90 := hL (88, 3, 90) (by decide +kernel)
theorem sk_12_3 : SH0[90]? = some (50, 97) := by decide +kernel
theorem lk_12_22 {R : RM} (hL : Links R) : R 88 22 = some 91 := hL (88, 22, 91) (by decide +kernel)
theorem sk_12_22 : SH0[91]? = some (51, 2) := by decide +kernel
theorem lk_12_23 {R : RM} (hL : Links R) : R 88 23 = some 92 := hL (88, 23, 92) (by decide +kernel)
theorem sk_12_23 : SH0[92]? = some (50, 6) := by decide +kernel
theorem lk_12_24 {R : RM} (hL : Links R) : R 88 24 = some 93 := hL (88, 24, 93) (by decide +kernel)
theorem sk_12_24 : SH0[93]? = some (50, 10) := by decide +kernel
theorem lk_12_25 {R : RM} (hL : Links R) : R 88 25 = some 94 := hL (88, 25, 94) (by decide +kernel)
theorem sk_12_25 : SH0[94]? = some (50, 10) := by decide +kernel
theorem lk_12_26 {R : RM} (hL : Links R) : R 88 26 = some 95 := hL (88, 26, 95) (by decide +kernel)
theorem sk_12_26 : SH0[95]? = some (50, 10) := by decide +kernel
theorem lk_12_27 {R : RM} (hL : Links R) : R 88 27 = some 96 := hL (88, 27, 96) (by decide +kernel)
theorem sk_12_27 : SH0[96]? = some (50, 10) := by decide +kernel
theorem lk_12_28 {R : RM} (hL : Links R) : R 88 28 = some 97 := hL (88, 28, 97) (by decide +kernel)
theorem sk_12_28 : SH0[97]? = some (50, 10) := by decide +kernel
theorem lk_12_29 {R : RM} (hL : Links R) : R 88 29 = some 98 := hL (88, 29, 98) (by decide +kernel)
theorem sk_12_29 : SH0[98]? = some (50, 10) := by decide +kernel
theorem lk_12_30 {R : RM} (hL : Links R) : R 88 30 = some 99 := hL (88, 30, 99) (by decide +kernel)
theorem sk_12_30 : SH0[99]? = some (50, 10) := by decide +kernel
theorem lk_12_31 {R : RM} (hL : Links R) : R 88 31 = some 100 := hL (88, 31, 100) (by decide +kernel)
theorem sk_12_31 : SH0[100]? = some (50, 10) := by decide +kernel
theorem lk_12_32 {R : RM} (hL : Links R) : R 88 32 = some 101 := hL (88, 32, 101) (by decide +kernel)
theorem sk_12_32 : SH0[101]? = some (50, 10) := by decide +kernel
theorem lk_12_33 {R : RM} (hL : Links R) : R 88 33 = some 102 := hL (88, 33, 102) (by decide +kernel)
theorem sk_12_33 : SH0[102]? = some (50, 8) := by decide +kernel
theorem lk_12_34 {R : RM} (hL : Links R) : R 88 34 = some 103 := hL (88, 34, 103) (by decide +kernel)
theorem sk_12_34 : SH0[103]? = some (50, 8) := by decide +kernel
theorem lk_12_35 {R : RM} (hL : Links R) : R 88 35 = some 104 := hL (88, 35, 104) (by decide +kernel)
theorem sk_12_35 : SH0[104]? = some (50, 8) := by decide +kernel
theorem lk_12_36 {R : RM} (hL : Links R) : R 88 36 = some 105 := hL (88, 36, 105) (by decide +kernel)
theorem sk_12_36 : SH0[105]? = some (50, 16) := by decide +kernel
theorem lk_12_37 {R : RM} (hL : Links R) : R 88 37 = some 106 := hL (88, 37, 106) (by decide +kernel)
theorem sk_12_37 : SH0[106]? = some (51, 6) := by decide +kernel
theorem lk_12_38 {R : RM} (hL : Links R) : R 88 38 = some 107 := hL (88, 38, 107) (by decide +kernel)
theorem sk_12_38 : SH0[107]? = some (50, 6) := by decide +kernel
theorem lk_12_39 {R : RM} (hL : Links R) : R 88 39 = some 108 := hL (88, 39, 108) (by decide +kernel)
theorem sk_12_39 : SH0[108]? = some (50, 6) := by decide +kernel
theorem lk_12_40 {R : RM} (hL : Links R) : R 88 40 = some 109 := hL (88, 40, 109) (by decide +kernel)
theorem sk_12_40 : SH0[109]? = some (50, 128) := by decide +kernel
theorem lk_12_41 {R : RM} (hL : Links R) : R 88 41 = some 110 := hL (88, 41, 110) (by decide +kernel)
theorem sk_12_41 : SH0[110]? = some (50, 128) := by decide +kernel
theorem lk_12_42 {R : RM} (hL : Links R) : R 88 42 = some 111 := hL (88, 42, 111) (by decide +kernel)
theorem sk_12_42 : SH0[111]? = some (50, 128) := by decide +kernel
theorem lk_12_43 {R : RM} (hL : Links R) : R 88 43 = some 112 := hL (88, 43, 112) (by decide +kernel)
theorem sk_12_43 : SH0[112]? = some (50, 96) := by decide +kernel
theorem lk_12_44 {R : RM} (hL : Links R) : R 88 44 = some 113 := hL (88, 44, 113) (by decide +kernel)
theorem sk_12_44 : SH0[113]? = some (50, 96) := by decide +kernel
theorem lk_12_51 {R : RM} (hL : Links R) : R 88 51 = some 114 := hL (88, 51, 114) (by decide +kernel)
theorem sk_12_51 : SH0[114]? = some (53, 7) := by decide +kernel
theorem lk_12_52 {R : RM} (hL : Links R) : R 88 52 = some 115 := hL (88, 52, 115) (by decide +kernel)
theorem sk_12_52 : SH0[115]? = some (53, 64) := by decide +kernel
theorem lk_12_54 {R : RM} (hL : Links R) : R 88 54 = some 116 := hL (88, 54, 116) (by decide +kernel)
theorem sk_12_54 : SH0[116]? = some (50, 10) := by decide +kernel
theorem lk_12_55 {R : RM} (hL : Links R) : R 88 55 = some 117 := hL (88, 55, 117) (by decide +kernel)
theorem sk_12_55 : SH0[117]? = some (50, 60) := by decide +kernel
theorem lk_12_56 {R : RM} (hL : Links R) : R 88 56 = some 118 := hL (88, 56, 118) (by decide +kernel)
theorem sk_12_56 : SH0[118]? = some (50, 10) := by decide +kernel
theorem lk_12_57 {R : RM} (hL : Links R) : R 88 57 = some 119 := hL (88, 57, 119) (by decide +kernel)
theorem sk_12_57 : SH0[119]? = some (50, 10) := by decide +kernel
theorem lk_12_58 {R : RM} (hL : Links R) : R 88 58 = some 120 := hL (88, 58, 120) (by decide +kernel)
theorem sk_12_58 : SH0[120]? = some (51, 10) := by decide +kernel
theorem lk_12_59 {R : RM} (hL : Links R) : R 88 59 = some 121 := hL (88, 59, 121) (by decide +kernel)
theorem sk_12_59 : SH0[121]? = some (50, 2) := by decide +kernel
theorem lk_12_60 {R : RM} (hL : Links R) : R 88 60 = some 122 := hL (88, 60, 122) (by decide +kernel)
theorem sk_12_60 : SH0[122]? = some (50, 2) := by decide +kernel
theorem lk_12_61 {R : RM} (hL : Links R) : R 88 61 = some 123 := hL (88, 61, 123) (by decide +kernel)
theorem sk_12_61 : SH0[123]? = some (51, 2) := by decide +kernel
theorem lk_12_62 {R : RM} (hL : Links R) : R 88 62 = some 124 := hL (88, 62, 124) (by decide +kernel)
theorem sk_12_62 : SH0[124]? = some (50, 2) := by decide +kernel
theorem lk_12_63 {R : RM} (hL : Links R) : R 88 63 = some 125 := hL (88, 63, 125) (by decide +kernel)
theorem sk_12_63 : SH0[125]? = some (50, 2) := by decide +kernel
theorem lk_12_64 {R : RM} (hL : Links R) : R 88 64 = some 126 := hL (88, 64, 126) (by decide +kernel)
theorem sk_12_64 : SH0[126]? = some (50, 2) := by decide +kernel
theorem lk_12_65 {R : RM} (hL : Links R) : R 88 65 = some 127 := hL (88, 65, 127) (by decide +kernel)
theorem sk_12_65 : SH0[127]? = some (50, 2) := by decide +kernel
theorem lk_12_66 {R : RM} (hL : Links R) : R 88 66 = some 128 := hL (88, 66, 128) (by decide +kernel)
theorem sk_12_66 : SH0[128]? = some (50, 24) := by decide +kernel
theorem lk_12_67 {R : RM} (hL : Links R) : R 88 67 = some 129 := hL (88, 67, 129) (by decide +kernel)
theorem sk_12_67 : SH0[129]? = some (50, 24) := by decide +kernel
theorem lk_12_68 {R : RM} (hL : Links R) : R 88 68 = some 130 := hL (88, 68, 130) (by decide +kernel)
theorem sk_12_68 : SH0[130]? = some (50, 5) := by decide +kernel
theorem lk_12_82 {R : RM} (hL : Links R) : R 88 82 = some 131 := hL (88, 82, 131) (by decide +kernel)
theorem sk_12_82 : SH0[131]? = some (50, 72) := by decide +kernel
theorem lk_12_83 {R : RM} (hL : Links R) : R 88 83 = some 132 := hL (88, 83, 132) (by decide +kernel)
theorem sk_12_83 : SH0[132]? = some (51, 24) := by decide +kernel
theorem lk_12_86 {R : RM} (hL : Links R) : R 88 86 = some 133 := hL (88, 86, 133) (by decide +kernel)
theorem sk_12_86 : SH0[133]? = some (50, 160) := by decide +kernel
theorem lk_12_88 {R : RM} (hL : Links R) : R 88 88 = some 134 := hL (88, 88, 134) (by decide +kernel)
theorem sk_12_88 : SH0[134]? = some (50, 8) := by decide +kernel
theorem lk_12_89 {R : RM} (hL : Links R) : R 88 89 = some 135 := hL (88, 89, 135) (by decide +kernel)
theorem sk_12_89 : SH0[135]? = some (50, 35) := by decide +kernel
theorem lk_12_90 {R : RM} (hL : Links R) : R 88 90 = some 136 := hL (88, 90, 136) (by decide +kernel)
theorem sk_12_90 : SH0[136]? = some (50, 10) := by decide +kernel
theorem lk_12_91 {R : RM} (hL : Links R) : R 88 91 = some 137 := hL (88, 91, 137) (by decide +kernel)
theorem sk_12_91 : SH0[137]? = some (50, 48) := by decide +kernel
theorem lk_12_92 {R : RM} (hL : Links R) : R 88 92 = some 138 := hL (88, 92, 138) (by decide +kernel)
theorem sk_12_92 : SH0[138]? = some (50, 4) := by decide +kernel
theorem uws_in {C : String} {T : u_T} {N : Nat} (ix : List Nat) (h : (List.range N).all (fun j => decide (lw_tbl[ix.getD j 0]? = some (u_lay C T j)) && okW (u_lay C T j)) = true) : ∀ w ∈ u_ws C T N, w ∈ TS := by
  intro w hw
  obtain ⟨j, hj, rfl⟩ := List.mem_map.mp hw
  have h1 := List.all_eq_true.mp h j hj
  rw [Bool.and_eq_true] at h1
  exact inTS _ (of_decide_eq_true h1.1) h1.2
theorem cls0 : Cls 0 RX0 TX0 18 := ⟨by decide, rfl, uws_in [584, 586, 588, 590, 592, 594, 596, 598, 600, 602, 604, 606, 608, 610, 612, 614, 616, 618] (by decide +kernel), tyX0_ok, nmX0⟩
theorem cls1 : Cls 1 RX1 TX1 7 := ⟨by decide, rfl, uws_in [255, 257, 259, 261, 263, 265, 267] (by decide +kernel), tyX1_ok, nmX1⟩
theorem cls2 : Cls 2 RX2 TX2 15 := ⟨by decide, rfl, uws_in [453, 455, 457, 459, 461, 463, 465, 467, 469, 471, 473, 475, 477, 479, 481] (by decide +kernel), tyX2_ok, nmX2⟩
theorem cls3 : Cls 3 RX3 TX3 8 := ⟨by decide, rfl, uws_in [395, 397, 399, 401, 403, 405, 407, 409] (by decide +kernel), tyX3_ok, nmX3⟩
theorem cls4 : Cls 4 RX4 TX4 7 := ⟨by decide, rfl, uws_in [636, 638, 640, 642, 644, 646, 648] (by decide +kernel), tyX4_ok, nmX4⟩
theorem cls5 : Cls 5 RX5 TX5 4 := ⟨by decide, rfl, uws_in [662, 664, 666, 668] (by decide +kernel), tyX5_ok, nmX5⟩
theorem cls6 : Cls 6 RX6 TX6 6 := ⟨by decide, rfl, uws_in [365, 367, 369, 371, 373, 375] (by decide +kernel), tyX6_ok, nmX6⟩
theorem cls7 : Cls 7 RX7 TX7 7 := ⟨by decide, rfl, uws_in [280, 282, 284, 286, 288, 290, 292] (by decide +kernel), tyX7_ok, nmX7⟩
theorem cls8 : Cls 8 RX8 TX8 5 := ⟨by decide, rfl, uws_in [325, 327, 329, 331, 333] (by decide +kernel), tyX8_ok, nmX8⟩
theorem cls9 : Cls 9 RX9 TX9 7 := ⟨by decide, rfl, uws_in [225, 227, 229, 231, 233, 235, 237] (by decide +kernel), tyX9_ok, nmX9⟩
theorem cls10 : Cls 10 RX10 TX10 11 := ⟨by decide, rfl, uws_in [523, 525, 527, 529, 531, 533, 535, 537, 539, 541, 543] (by decide +kernel), tyX10_ok, nmX10⟩
theorem cls11 : Cls 11 RX11 TX11 13 := ⟨by decide, rfl, uws_in [684, 686, 688, 690, 692, 694, 696, 698, 700, 702, 704, 706, 708] (by decide +kernel), tyX11_ok, nmX11⟩
theorem cls12 : Cls 12 RX12 TX12 93 := ⟨by decide, rfl, uws_in [1505, 1507, 1509, 1511, 1513, 1515, 1517, 1519, 1521, 1523, 1525, 1527, 1529, 1531, 1533, 1535, 1537, 1539, 1541, 1543, 1545, 1547, 1549, 1551, 1553, 1555, 1557, 1559, 1561, 1563, 1565, 1567, 1569, 1571, 1573, 1575, 1577, 1579, 1581, 1583, 1585, 1587, 1589, 1591, 1593, 1595, 1597, 1599, 1601, 1603, 1605, 1607, 1609, 1611, 1613, 1615, 1617, 1619, 1621, 1623, 1625, 1627, 1629, 1631, 1633, 1635, 1637, 1639, 1641, 1643, 1645, 1647, 1649, 1651, 1653, 1655, 1657, 1659, 1661, 1663, 1665, 1667, 1669, 1671, 1673, 1675, 1677, 1679, 1681, 1683, 1685, 1687, 1689] (by decide +kernel), tyX12_ok, nmX12⟩

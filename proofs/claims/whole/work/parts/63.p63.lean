theorem w32_i {x : Int} (h1 : -2147483648 ≤ x) (h2 : x ≤ 2147483647) : w32 x = x := w32_id ⟨h1, by omega⟩
theorem w64_i {x : Int} (h1 : -9223372036854775808 ≤ x) (h2 : x ≤ 9223372036854775807) : w64 x = x := w64_id ⟨h1, by omega⟩
theorem up_na {M : MM} {a i x j : Nat} {v : Int} (h : x ≠ a) : upM M a i v x j = M x j := upM_ne x j (fun z => h z.1)
theorem up_ni {M : MM} {a i j : Nat} {v : Int} (h : j ≠ i) : upM M a i v a j = M a j := upM_ne a j (fun z => h z.2)
theorem up_is {M : MM} {a i x j : Nat} {v : Int} (h1 : x = a) (h2 : j = i) : upM M a i v x j = v := by subst h1 h2; exact upM_eq
theorem up_row {M : MM} {a i x : Nat} {v : Int} (h : x ≠ a) : upM M a i v x = M x := funext fun _ => up_na h
theorem gH_h {X : Type} {h : Nat} (hh : h = 8 ∨ h = 31) (f : Nat → Option X) : gH (h : Int) f = f h := gH_eq rfl hh f
theorem tm24 {x : Int} (h : 0 ≤ x) : x.tmod 24 = x % 24 := Int.tmod_eq_emod_of_nonneg h
theorem tmn {x y : Int} (h : 0 ≤ x) : x.tmod y = x % y := Int.tmod_eq_emod_of_nonneg h
theorem tdn {x y : Int} (h : 0 ≤ x) : x.tdiv y = x / y := Int.tdiv_eq_ediv_of_nonneg h
/-- what the two systems have in common: a house H, a course S, laid as in the first of them -/
abbrev LVT : Type := Nat → (Nat → Int) → Option Int
def HC (M : MM) (h : Nat) (H : MM) : Prop := ∀ k : Nat, k < 23 → k ≠ 17 → k ≠ 18 → M (h + k) = H k
def CC (M : MM) (c : Nat) (S : MM) : Prop := ∀ k : Nat, k < 8 → M (c + k) = S k
def ERR : Int := -9223372036854775808
def LVc (LV : LVT) : Prop := ∀ w (a b : Nat → Int), (∀ j, j < 7 → a j = b j) → LV w a = LV w b
def LVr (LV : LVT) : Prop := ∀ w a v, LV w a = some v → -1000000000000 ≤ v ∧ v ≤ 1000000000000
def NmOK (a : Nat → Int) : Prop := ∀ j, j < 7 → -1000000 ≤ a j ∧ a j ≤ 1000000
/-- the rows of laws of the house at h answer by LV -/
def CL (M : MM) (h : Nat) (LV : LVT) : Prop := ∀ m : MM, (∀ k : Nat, 13 ≤ k → k ≤ 16 → m (h + k) = M (h + k)) → ∀ w : Nat, w < 3 → NmOK (m (h + 18)) → ∃ m' : MM, f_X3_value m (h + 12) (w : Int) = some ((LV w (m (h + 18))).getD ERR, m') ∧ ∀ a, a ≠ h + 17 → m' a = m a
def aOut (H : MM) (t : Int) : Int := if 0 < H 0 7 then H 22 (t % (H 0 7)).toNat else 100
def aSun (H : MM) (r t : Int) : Nat → Int
  | 0 => 0
  | n + 1 => aSun H r t n + (if H 19 n = r ∧ H 20 n = t then H 21 n else 0)
abbrev aOn (H S : MM) : Prop := 0 < H 1 0 ∧ S 3 (S 0 4).toNat + (if S 0 5 = 0 then 0 else 50) < 10 * S 0 3
def aLate (H S : MM) (p : Nat) : Int := if (p : Int) = S 1 7 then S 1 8 else if S 1 3 = 0 then H 10 p else 0
def aFelt (H S : MM) (p : Nat) : Int := S 3 (aLate H S p * 5 + H 8 p).toNat + (if S 2 p = 0 then 0 else 20)
def aNm (S : MM) (o : Int) (r : Nat) (felt wish leak : Int) : Nat → Int := fun j => if j = 0 then S 3 r else if j = 1 then o else if j = 2 then felt else if j = 3 then wish else if j = 4 then 10 * S 0 3 else if j = 5 then leak else (S 0 2) % 24
def aLeak (H S : MM) (r : Nat) : Int := if (r : Int) = S 1 6 then (H 4 r) / 2 else H 4 r
def aLoss (H : MM) (LV : LVT) (S : MM) (o : Int) (r : Nat) : Int := cl ((LV 0 (aNm S o r 0 0 (aLeak H S r))).getD (((S 3 r - o) * aLeak H S r).tdiv 100)) (-400) 400
def aGain (H : MM) (LV : LVT) (S : MM) (o : Int) (on : Prop) [Decidable on] (r : Nat) : Int := (if on then H 5 r else 0) + (if S 1 2 = 0 then aSun H r (S 0 2 % 24) (H 0 3).toNat else 0) - (if S 1 4 = 0 then aLoss H LV S o r else 0)
def aWarm (H : MM) (LV : LVT) (S : MM) (o : Int) (on : Prop) [Decidable on] (k j : Nat) : Int := if j < 5 then (if j < k then cl (S 3 j + aGain H LV S o on j) 0 600 else S 3 j) else if j < 30 then S 3 (j - 5) else S 3 j
def aRooms (H : MM) (LV : LVT) (S : MM) (o : Int) (on : Prop) [Decidable on] (k : Nat) : MM := fun a j => if a = 3 then aWarm H LV S o on k j else S a j
def aBy (H : MM) (LV : LVT) (S : MM) (o : Int) (p : Nat) : Int := (LV 1 (aNm S o (H 8 p).toNat (aFelt H S p) (10 * H 9 p) (H 4 (H 8 p).toNat))).getD (if aFelt H S p < 10 * H 9 p - 5 then 1 else if 10 * H 9 p + 5 < aFelt H S p then -1 else 0)
def aTo (H : MM) (LV : LVT) (S : MM) (o : Int) (p : Nat) : Int := cl (S 0 3 + cl (aBy H LV S o p) (-9) 9) 5 30
def aSw (S : MM) (way : Int) : MM := if way = -(S 0 17) then upM S 0 16 (w32 (S 0 16 + 1)) else S
def aTurned (S : MM) (p : Nat) (to : Int) : MM :=
  let way := if S 0 3 < to then 1 else -1
  let t := (S 0 2 % 24).toNat
  upM (upM (upM (upM (upM (upM (aSw S way) 0 17 way) 0 3 to) 0 15 (w32 (S 0 15 + 1))) 5 p (w32 (S 5 p + 1))) 6 t (w32 (S 6 t + to))) 7 t (w32 (S 7 t + 1))
def aTurn1 (H : MM) (LV : LVT) (o : Int) (p : Nat) (S : MM) : MM := if (p : Int) = S 1 5 then S else if H 11 p = S 0 2 % 24 then (if aTo H LV S o p = S 0 3 then S else aTurned S p (aTo H LV S o p)) else S
def aTurns (H : MM) (LV : LVT) (o : Int) (S : MM) : Nat → MM
  | 0 => S
  | n + 1 => aTurn1 H LV o n (aTurns H LV o S n)
def aCr (H : MM) (LV : LVT) (S : MM) (o : Int) (p : Nat) : Int := cl ((LV 2 (aNm S o (H 8 p).toNat (aFelt H S p) (10 * H 9 p) (H 4 (H 8 p).toNat))).getD (ds (aFelt H S p) (10 * H 9 p) / 10)) 0 999
def aCross (H : MM) (LV : LVT) (S : MM) (o : Int) (n : Nat) : MM := fun a j => if a = 4 ∧ j < n ∧ (j : Int) ≠ S 1 5 then w32 (S 4 j + aCr H LV S o j) else S a j
def aPay (H S : MM) (on : Prop) [Decidable on] : MM := if on then upM (upM S 0 13 (S 0 13 + H 0 11)) 0 14 (S 0 14 + 1) else S
def aHour (H : MM) (LV : LVT) (o : Int) (S : MM) : MM :=
  let S1 := aRooms H LV (aPay H (upM S 0 6 o) (aOn H (upM S 0 6 o))) o (aOn H (upM S 0 6 o)) (H 1 0).toNat
  let S2 := if S 1 0 = 0 then aTurns H LV o S1 (H 6 0).toNat else S1
  let S3 := if S 1 1 = 0 then aCross H LV S2 o (H 6 0).toNat else S2
  upM S3 0 2 (S 0 2 + 1)
/-- what lies within its bounds -/
def HOK (H : MM) : Prop := (0 ≤ H 1 0 ∧ H 1 0 ≤ 5) ∧ (0 ≤ H 6 0 ∧ H 6 0 ≤ 5) ∧ (0 ≤ H 0 3 ∧ H 0 3 ≤ 4) ∧ (0 ≤ H 0 7 ∧ H 0 7 ≤ 8) ∧ (5 ≤ H 0 9 ∧ H 0 9 ≤ 30) ∧ (0 ≤ H 0 10 ∧ H 0 10 < 5 ∧ (H 0 10 < H 1 0 ∨ H 0 10 = 0)) ∧ (0 ≤ H 0 11 ∧ H 0 11 ≤ 99) ∧ (∀ r : Nat, r < 5 → 0 ≤ H 3 r ∧ H 3 r ≤ 600) ∧ (∀ r : Nat, (r : Int) < H 1 0 → 0 ≤ H 4 r ∧ H 4 r ≤ 99 ∧ 0 ≤ H 5 r ∧ H 5 r ≤ 99) ∧ (∀ p : Nat, (p : Int) < H 6 0 → 0 ≤ H 8 p ∧ H 8 p < H 1 0 ∧ 0 ≤ H 9 p ∧ H 9 p ≤ 40 ∧ 0 ≤ H 10 p ∧ H 10 p ≤ 5 ∧ 0 ≤ H 11 p ∧ H 11 p ≤ 23) ∧ (∀ s : Nat, (s : Int) < H 0 3 → 0 ≤ H 21 s ∧ H 21 s ≤ 99) ∧ (∀ s : Nat, (s : Int) < H 0 7 → 0 ≤ H 22 s ∧ H 22 s ≤ 400)
def SOK (H S : MM) : Prop := (0 ≤ S 0 2 ∧ S 0 2 ≤ 20000) ∧ (5 ≤ S 0 3 ∧ S 0 3 ≤ 30) ∧ (0 ≤ S 0 4 ∧ S 0 4 < 5 ∧ (S 0 4 < H 1 0 ∨ S 0 4 = 0)) ∧ (S 0 5 = 0 ∨ S 0 5 = 1) ∧ (0 ≤ S 0 13 ∧ S 0 13 ≤ 99 * S 0 2 + 99) ∧ (0 ≤ S 0 14 ∧ S 0 14 ≤ S 0 2 + 1) ∧ (S 0 17 = 0 ∨ S 0 17 = 1 ∨ S 0 17 = -1) ∧ (∀ j : Nat, j < 5 → S 2 j = 0 ∨ S 2 j = 1) ∧ (∀ j : Nat, j < 30 → 0 ≤ S 3 j ∧ S 3 j ≤ 600) ∧ (∀ j : Nat, j < 5 → r32 (S 4 j) ∧ r32 (S 5 j)) ∧ (r32 (S 0 15) ∧ r32 (S 0 16)) ∧ (S 1 7 = -1 ∨ (0 ≤ S 1 8 ∧ S 1 8 ≤ 5 ∧ S 1 3 = 0))
def SP (S : MM) : Prop := S 0 13 ≤ 99 * S 0 2 ∧ S 0 14 ≤ S 0 2
def aNext (x : Int) : Int := and64 (w64 ((w64 (x * 1103515245)) + 12345)) 2147483647
def aO (H S : MM) : Int := if S 1 9 = 0 then aOut H (S 0 2) else cl (aOut H (S 0 2) + aNext (S 1 10) / 65536 % 101 - 50) 0 400
def aSeed (S : MM) : MM := if S 1 9 = 0 then S else upM S 1 10 (aNext (S 1 10))
def aStep (H : MM) (LV : LVT) (S : MM) : MM := aHour H LV (aO H S) (aSeed S)
def aRun (H : MM) (LV : LVT) (S : MM) : Nat → MM
  | 0 => S
  | n + 1 => aStep H LV (aRun H LV S n)

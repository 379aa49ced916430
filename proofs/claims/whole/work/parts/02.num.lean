abbrev CV : Type := Int ⊕ (Int ⊕ (Nat ⊕ Unit))
abbrev iV (x : Int) : CV := Sum.inl x
abbrev jV (x : Int) : CV := Sum.inr (Sum.inl x)
abbrev rV (a : Nat) : CV := Sum.inr (Sum.inr (Sum.inl a))
abbrev sV : CV := Sum.inr (Sum.inr (Sum.inr ()))
abbrev RM : Type := Nat → Nat → Option Nat
abbrev MM : Type := Nat → Nat → Int
abbrev CW : Type := List (Nat × Nat) × Bool × RM × MM
abbrev EE : Type := Launch × Nat × va_G × (Nat → ClassId) × Nat × Nat × (Nat → Int32)
abbrev MD : Type := MethodName × ByteArray × Nat × Option FieldType × Room
def r32 (x : Int) : Prop := -2147483648 ≤ x ∧ x < 2147483648
def r64 (x : Int) : Prop := -9223372036854775808 ≤ x ∧ x < 9223372036854775808
def w32 (x : Int) : Int := (x + 2147483648) % 4294967296 - 2147483648
def w64 (x : Int) : Int := (x + 9223372036854775808) % 18446744073709551616 - 9223372036854775808
def w8 (x : Int) : Int := (x + 128) % 256 - 128
theorem w32_r (x : Int) : r32 (w32 x) := by unfold r32 w32; omega
theorem w64_r (x : Int) : r64 (w64 x) := by unfold r64 w64; omega
theorem w8_r (x : Int) : -128 ≤ w8 x ∧ w8 x < 128 := by unfold w8; omega
theorem w32_id {x : Int} (h : r32 x) : w32 x = x := by unfold r32 at h; unfold w32; omega
theorem w64_id {x : Int} (h : r64 x) : w64 x = x := by unfold r64 at h; unfold w64; omega
theorem w32_bm (x : Int) : w32 x = x.bmod 4294967296 := by
  rw [Int.bmod_def]; unfold w32; split <;> omega
theorem w64_bm (x : Int) : w64 x = x.bmod 18446744073709551616 := by
  rw [Int.bmod_def]; unfold w64; split <;> omega
theorem w8_bm (x : Int) : w8 x = x.bmod 256 := by
  rw [Int.bmod_def]; unfold w8; split <;> omega
theorem tI (x : Int) : (Int32.ofInt x).toInt = w32 x := by rw [Int32.toInt_ofInt, w32_bm]
theorem tL (x : Int) : (Int64.ofInt x).toInt = w64 x := by rw [Int64.toInt_ofInt, w64_bm]
theorem tIr {x : Int} (h : r32 x) : (Int32.ofInt x).toInt = x := by rw [tI, w32_id h]
theorem tLr {x : Int} (h : r64 x) : (Int64.ofInt x).toInt = x := by rw [tL, w64_id h]
theorem eI {a : Int32} {x : Int} (h : w32 x = a.toInt) : Int32.ofInt x = a := Int32.toInt_inj.mp (by rw [tI, h])
theorem eL {a : Int64} {x : Int} (h : w64 x = a.toInt) : Int64.ofInt x = a := Int64.toInt_inj.mp (by rw [tL, h])
theorem oI (x : Int) : Int32.ofInt (w32 x) = Int32.ofInt x := eI (by rw [w32_id (w32_r x), tI])
theorem oL (x : Int) : Int64.ofInt (w64 x) = Int64.ofInt x := eL (by rw [w64_id (w64_r x), tL])
theorem rI (a : Int32) : r32 a.toInt := ⟨a.le_toInt, a.toInt_lt⟩
theorem rL (a : Int64) : r64 a.toInt := ⟨a.le_toInt, a.toInt_lt⟩
theorem aI (x y : Int) : Int32.ofInt x + Int32.ofInt y = Int32.ofInt (w32 (x + y)) := by
  rw [oI]; exact (Int32.ofInt_add _ _).symm
theorem sI (x y : Int) : Int32.ofInt x - Int32.ofInt y = Int32.ofInt (w32 (x - y)) := by
  rw [oI]; exact (Int32.ofInt_sub _ _).symm
theorem mI (x y : Int) : Int32.ofInt x * Int32.ofInt y = Int32.ofInt (w32 (x * y)) := by
  rw [oI]; exact (Int32.ofInt_mul _ _).symm
theorem nI' (x : Int) : - Int32.ofInt x = Int32.ofInt (w32 (-x)) := by
  rw [oI]; exact (Int32.ofInt_neg _).symm
theorem aL (x y : Int) : Int64.ofInt x + Int64.ofInt y = Int64.ofInt (w64 (x + y)) := by
  rw [oL]; exact (Int64.ofInt_add _ _).symm
theorem sL (x y : Int) : Int64.ofInt x - Int64.ofInt y = Int64.ofInt (w64 (x - y)) := by
  rw [oL]; exact (Int64.ofInt_sub _ _).symm
theorem mL (x y : Int) : Int64.ofInt x * Int64.ofInt y = Int64.ofInt (w64 (x * y)) := by
  rw [oL]; exact (Int64.ofInt_mul _ _).symm
theorem nL' (x : Int) : - Int64.ofInt x = Int64.ofInt (w64 (-x)) := by
  rw [oL]; exact (Int64.ofInt_neg _).symm
theorem dI {x y : Int} (hx : r32 x) (hy : r32 y) : Int32.ofInt x / Int32.ofInt y = Int32.ofInt (w32 (x.tdiv y)) := by
  apply Int32.toInt_inj.mp
  rw [oI, tI, Int32.toInt_div, tIr hx, tIr hy, w32_bm]
theorem dL {x y : Int} (hx : r64 x) (hy : r64 y) : Int64.ofInt x / Int64.ofInt y = Int64.ofInt (w64 (x.tdiv y)) := by
  apply Int64.toInt_inj.mp
  rw [oL, tL, Int64.toInt_div, tLr hx, tLr hy, w64_bm]
theorem mdI {x y : Int} (hx : r32 x) (hy : r32 y) : Int32.ofInt x - Int32.ofInt x / Int32.ofInt y * Int32.ofInt y = Int32.ofInt (w32 (x.tmod y)) := by
  rw [dI hx hy, mI, sI]
  simp only [oI]
  rw [Int.tmod_def]
  rw [Int32.ofInt_sub, Int32.ofInt_sub, Int32.ofInt_mul, oI, Int32.ofInt_mul, oI, Int32.mul_comm]
theorem mdL {x y : Int} (hx : r64 x) (hy : r64 y) : Int64.ofInt x - Int64.ofInt x / Int64.ofInt y * Int64.ofInt y = Int64.ofInt (w64 (x.tmod y)) := by
  rw [dL hx hy, mL, sL]
  simp only [oL]
  rw [Int.tmod_def]
  rw [Int64.ofInt_sub, Int64.ofInt_sub, Int64.ofInt_mul, oL, Int64.ofInt_mul, oL, Int64.mul_comm]
theorem ltI {x y : Int} (hx : r32 x) (hy : r32 y) : Int32.ofInt x < Int32.ofInt y ↔ x < y := by rw [Int32.lt_iff_toInt_lt, tIr hx, tIr hy]
theorem leI {x y : Int} (hx : r32 x) (hy : r32 y) : Int32.ofInt x ≤ Int32.ofInt y ↔ x ≤ y := by rw [Int32.le_iff_toInt_le, tIr hx, tIr hy]
theorem eqI {x y : Int} (hx : r32 x) (hy : r32 y) : Int32.ofInt x = Int32.ofInt y ↔ x = y := by rw [← Int32.toInt_inj, tIr hx, tIr hy]
theorem ltL {x y : Int} (hx : r64 x) (hy : r64 y) : Int64.ofInt x < Int64.ofInt y ↔ x < y := by rw [Int64.lt_iff_toInt_lt, tLr hx, tLr hy]
theorem eqL {x y : Int} (hx : r64 x) (hy : r64 y) : Int64.ofInt x = Int64.ofInt y ↔ x = y := by rw [← Int64.toInt_inj, tLr hx, tLr hy]
theorem r0 : r32 0 := by unfold r32; omega
theorem z32 : Int32.ofInt 0 = 0 := by decide
theorem inI {x : Int} {n : Nat} (hx : r32 x) (h : 0 ≤ x ∧ x < (n : Int)) : vp_in (Int32.ofInt x) n := by
  rw [vp_in_iff, tIr hx]; exact h
theorem clI {x : Int} (hx : r32 x) : (Int32.ofInt x).toNatClampNeg = x.toNat := by
  show (Int32.ofInt x).toInt.toNat = x.toNat
  rw [tIr hx]
def cmpI (x y : Int) : Int := if x > y then 1 else if x = y then 0 else -1
theorem cmpI_r (x y : Int) : r32 (cmpI x y) := by unfold cmpI r32; split <;> try split
                                                  all_goals omega
theorem cmpI_o {x y : Int} (hx : r64 x) (hy : r64 y) : lg_cmp (Int64.ofInt x) (Int64.ofInt y) = Int32.ofInt (cmpI x y) := by
  unfold lg_cmp cmpI
  have h1 : Int64.ofInt x > Int64.ofInt y ↔ x > y := ltL hy hx
  have h2 : Int64.ofInt x = Int64.ofInt y ↔ x = y := eqL hx hy
  by_cases a : x > y
  · rw [if_pos (h1.mpr a), if_pos a]; decide
  · rw [if_neg (fun q => a (h1.mp q)), if_neg a]
    by_cases b : x = y
    · rw [if_pos (h2.mpr b), if_pos b]; decide
    · rw [if_neg (fun q => b (h2.mp q)), if_neg b]; decide
theorem cmpI_lt (x y : Int) : cmpI x y < 0 ↔ x < y := by unfold cmpI; split <;> try split
                                                         all_goals omega
theorem cmpI_le (x y : Int) : cmpI x y ≤ 0 ↔ x ≤ y := by unfold cmpI; split <;> try split
                                                         all_goals omega
theorem cmpI_gt (x y : Int) : 0 < cmpI x y ↔ y < x := by unfold cmpI; split <;> try split
                                                         all_goals omega
theorem cmpI_ge (x y : Int) : 0 ≤ cmpI x y ↔ y ≤ x := by unfold cmpI; split <;> try split
                                                         all_goals omega
theorem cmpI_eq (x y : Int) : cmpI x y = 0 ↔ x = y := by unfold cmpI; split <;> try split
                                                         all_goals omega
theorem i2lI {x : Int} (hx : r32 x) : (Int32.ofInt x).toInt64 = Int64.ofInt x := by
  symm; apply eL; rw [Int32.toInt_toInt64, tIr hx]; apply w64_id; unfold r32 at hx; unfold r64; omega
theorem l2iI {x : Int} (hx : r64 x) : (Int64.ofInt x).toInt32 = Int32.ofInt (w32 x) := by
  symm; apply eI; rw [Int64.toInt_toInt32, tLr hx, w32_id (w32_r x), w32_bm]
theorem i2bI {x : Int} (hx : r32 x) : (Int32.ofInt x).toInt8.toInt32 = Int32.ofInt (w8 x) := by
  symm; apply eI; rw [Int8.toInt_toInt32, Int32.toInt_toInt8, tIr hx, ← w8_bm, w32_id]; have := w8_r x; unfold r32; omega
def and32 (x y : Int) : Int := (Int32.ofInt x &&& Int32.ofInt y).toInt
def or32 (x y : Int) : Int := (Int32.ofInt x ||| Int32.ofInt y).toInt
def shl32 (x y : Int) : Int := (Int32.ofInt x <<< (Int32.ofInt y &&& 31)).toInt
def shr32 (x y : Int) : Int := (Int32.ofInt x >>> (Int32.ofInt y &&& 31)).toInt
def and64 (x y : Int) : Int := (Int64.ofInt x &&& Int64.ofInt y).toInt
def gd {X : Type} (c : Prop) [Decidable c] (o : Option X) : Option X := if c then o else none
theorem gd_t {X : Type} {c : Prop} [Decidable c] {o : Option X} (h : c) : gd c o = o := if_pos h
theorem gd_s {X : Type} {c : Prop} [Decidable c] {o : Option X} {x : X} (h : gd c o = some x) : c ∧ o = some x := by
  unfold gd at h; split at h
  · exact ⟨by assumption, h⟩
  · cases h
def lp {X Y : Type} (step : X → Option (X ⊕ Y)) : Nat → X → Option Y
  | 0, _ => none
  | n + 1, x => (step x).bind (fun z => match z with
    | .inl x' => lp step n x'
    | .inr y => some y)
def upM (M : MM) (a i : Nat) (v : Int) : MM := fun x j => if x = a ∧ j = i then v else M x j
def upR (R : RM) (a i : Nat) (v : Option Nat) : RM := fun x j => if x = a ∧ j = i then v else R x j

/-- a loop with an invariant and a measure below its fuel -/
theorem lp_ok {X Y : Type} {step : X → Option (X ⊕ Y)} (I : X → Prop) (μ : X → Nat) (Q : Y → Prop) (h : ∀ x, I x → (∃ y, step x = some (.inr y) ∧ Q y) ∨ ∃ x', step x = some (.inl x') ∧ I x' ∧ μ x' < μ x) : ∀ (n : Nat) (x : X), I x → μ x < n → ∃ y, lp step n x = some y ∧ Q y
  | 0, x, _, hn => absurd hn (Nat.not_lt_zero _)
  | n + 1, x, hx, hn => by
    rw [lp]
    rcases h x hx with ⟨y, e, hy⟩ | ⟨x', e, hx', hm⟩
    · exact ⟨y, by rw [e]; rfl, hy⟩
    · obtain ⟨y, e2, hy⟩ := lp_ok I μ Q h n x' hx' (by omega)
      exact ⟨y, by rw [e]; exact e2, hy⟩
theorem lp_FU {X Y : Type} {step : X → Option (X ⊕ Y)} (I : X → Prop) (μ : X → Nat) (Q : Y → Prop) (h : ∀ x, I x → (∃ y, step x = some (.inr y) ∧ Q y) ∨ ∃ x', step x = some (.inl x') ∧ I x' ∧ μ x' < μ x) (x : X) (hx : I x) (hn : μ x < 1000000) : ∃ y, lp step FU x = some y ∧ Q y := lp_ok I μ Q h FU x hx hn
theorem bM_eq {X : Type} (M : MM) (f : MM → Option X) : bM M f = f M := rfl
theorem bI_eq {X : Type} (x : Int) (f : Int → Option X) : bI x f = f x := rfl
theorem gH_eq {X : Type} {z : Int} {h : Nat} (hz : z = (h : Int)) (hh : h = 8 ∨ h = 31) (f : Nat → Option X) : gH z f = f h := by
  unfold gH
  rw [if_pos (by omega), hz]
  rfl
theorem sb {X Y : Type} (x : X) (f : X → Option Y) : (some x).bind f = f x := rfl
/-- cut to what lies within -/
def cl (a b c : Int) : Int := if a < b then b else if c < a then c else a
def b1 (c : Prop) [Decidable c] : Int := if c then 1 else 0
theorem b1_z (c : Prop) [Decidable c] : b1 c = 0 ∨ b1 c = 1 := by unfold b1; split <;> omega
theorem b1_0 {c : Prop} [Decidable c] : b1 c = 0 ↔ ¬ c := by unfold b1; split <;> simp [*]
theorem cl_r {a b c : Int} (h : b ≤ c) : b ≤ cl a b c ∧ cl a b c ≤ c := by
  unfold cl
  split
  · omega
  · split <;> omega
theorem pu_isIn (M : MM) (a b c : Int) : f_X12_isIn M a b c = some (b1 (b ≤ a ∧ a ≤ c)) := by
  unfold f_X12_isIn b1
  by_cases h1 : a < b
  · rw [if_pos h1, if_neg (by omega)]
  · rw [if_neg h1]
    by_cases h2 : c < a
    · rw [if_pos h2, if_neg (by omega)]
    · rw [if_neg h2, if_pos (by omega)]
theorem pu_isWithin (M : MM) (a b c : Int) : f_X11_isWithin M a b c = some (b1 (b ≤ a ∧ a ≤ c)) := pu_isIn M a b c
theorem pu_within (M : MM) (a b c : Int) : f_X12_within M a b c = some (cl a b c) := by
  unfold f_X12_within cl
  split
  · rfl
  · split <;> rfl
theorem pu_limited (M : MM) {a b c : Int} (hb : r32 b) (hc : r32 c) : f_X11_limited M a b c = some (cl a b c) := by
  unfold f_X11_limited cl
  by_cases h1 : a < b
  · rw [if_pos ((cmpI_lt a b).mpr h1), if_pos h1]
  · rw [if_neg (fun z => h1 ((cmpI_lt a b).mp z)), if_neg h1]
    by_cases h2 : c < a
    · rw [if_pos ((cmpI_gt a c).mpr h2), if_pos h2]
    · rw [if_neg (fun z => h2 ((cmpI_gt a c).mp z)), if_neg h2, w32_id (by unfold r32 at *; omega)]
def ds (a b : Int) : Int := if b < a then a - b else b - a
theorem pu_distance (M : MM) {a b : Int} (h1 : r32 (a - b)) (h2 : r32 (b - a)) : f_X11_distance M a b = some (ds a b) := by
  unfold f_X11_distance ds
  rw [w32_id h1, w32_id h2]
  split <;> rfl
theorem pu_isSet12 (M : MM) (a : Int) : f_X12_isSet M a = some (b1 (5 ≤ a ∧ a ≤ 30)) := by
  unfold f_X12_isSet
  rw [pu_isIn, sb, gd_t (b1_z _)]
theorem pu_isSet11 (M : MM) (a : Int) : f_X11_isSet M a = some (b1 (5 ≤ a ∧ a ≤ 30)) := by
  unfold f_X11_isSet
  rw [pu_isWithin, sb, gd_t (b1_z _)]
theorem pu_isRoom12 (M : MM) (p : Int) : f_X12_isRoom M p = some (b1 (0 ≤ p ∧ p < M 88 12)) := by
  unfold f_X12_isRoom b1
  by_cases h1 : p < 0
  · rw [if_pos h1, if_neg (by omega)]
  · rw [if_neg h1]
    by_cases h2 : p < M 88 12
    · rw [if_pos h2, if_pos (by omega)]
    · rw [if_neg h2, if_neg (by omega)]
theorem pu_isPerson12 (M : MM) (p : Int) : f_X12_isPerson M p = some (b1 (0 ≤ p ∧ p < M 88 13)) := by
  unfold f_X12_isPerson b1
  by_cases h1 : p < 0
  · rw [if_pos h1, if_neg (by omega)]
  · rw [if_neg h1]
    by_cases h2 : p < M 88 13
    · rw [if_pos h2, if_pos (by omega)]
    · rw [if_neg h2, if_neg (by omega)]
theorem pu_isRoom11 (M : MM) {h : Nat} (hz : M 0 3 = (h : Int)) (hh : h = 8 ∨ h = 31) (p : Int) : f_X11_isRoom M p = some (b1 (0 ≤ p ∧ p < M (h + 1) 0)) := by
  unfold f_X11_isRoom b1
  rw [gH_eq hz hh]
  by_cases h1 : p < 0
  · rw [if_pos h1, if_neg (by omega)]
  · rw [if_neg h1]
    by_cases h2 : p < M (h + 1) 0
    · rw [if_pos h2, if_pos (by omega)]
    · rw [if_neg h2, if_neg (by omega)]
theorem pu_isPerson11 (M : MM) {h : Nat} (hz : M 0 3 = (h : Int)) (hh : h = 8 ∨ h = 31) (p : Int) : f_X11_isPerson M p = some (b1 (0 ≤ p ∧ p < M (h + 6) 0)) := by
  unfold f_X11_isPerson b1
  rw [gH_eq hz hh]
  by_cases h1 : p < 0
  · rw [if_pos h1, if_neg (by omega)]
  · rw [if_neg h1]
    by_cases h2 : p < M (h + 6) 0
    · rw [if_pos h2, if_pos (by omega)]
    · rw [if_neg h2, if_neg (by omega)]
/-- what one says -/
def sd (a w : Int) : Int := if w = 0 then a else if w = 1 then a + 2 else a - 2
theorem pu_said12 (M : MM) {a w : Int} (ha : 0 ≤ a ∧ a ≤ 40) : f_X12_said M a w = some (sd a w) := by
  unfold f_X12_said sd
  split
  · rfl
  · split
    · rw [w32_id (by unfold r32; omega)]
    · rw [w32_id (by unfold r32; omega)]
theorem pu_said11 (M : MM) {a w : Int} (ha : 0 ≤ a ∧ a ≤ 40) : f_X11_said M a w = some (sd a w) := pu_said12 M ha
/-- what is lost by saying so -/
def lo (a w b v : Int) : Int := 10 * ds (cl ((sd a w + sd b v).tdiv 2) 5 30) a + (if w = 0 then 0 else 6)
theorem sd_r {a w : Int} (ha : 0 ≤ a ∧ a ≤ 40) : -2 ≤ sd a w ∧ sd a w ≤ 42 := by
  unfold sd
  split
  · omega
  · split <;> omega
theorem td_r {x : Int} (h : -100 ≤ x ∧ x ≤ 100) : r32 (x.tdiv 2) := by
  have h1 : (x.tdiv 2).natAbs ≤ x.natAbs := by rw [Int.natAbs_tdiv]; exact Nat.div_le_self _ _
  unfold r32
  omega
theorem ds_r {a b : Int} (h1 : 0 ≤ a ∧ a ≤ 100) (h2 : 0 ≤ b ∧ b ≤ 100) : 0 ≤ ds a b ∧ ds a b ≤ 100 := by
  unfold ds
  split <;> omega
theorem pu_lossBySaying (M : MM) {a w b v : Int} (ha : 0 ≤ a ∧ a ≤ 40) (hb : 0 ≤ b ∧ b ≤ 40) : f_X11_lossBySaying M a w b v = some (lo a w b v) := by
  have s1 := sd_r (w := w) ha
  have s2 := sd_r (w := v) hb
  unfold f_X11_lossBySaying lo
  rw [pu_said11 M ha, sb, pu_said11 M hb, sb, w32_id (x := sd a w + sd b v) (by unfold r32; omega), w32_id (td_r (by omega)), pu_limited M (by unfold r32; omega) (by unfold r32; omega), sb]
  have c1 := cl_r (a := (sd a w + sd b v).tdiv 2) (b := 5) (c := 30) (by omega)
  rw [pu_distance M (by unfold r32; omega) (by unfold r32; omega), sb]
  have c2 := ds_r (a := cl ((sd a w + sd b v).tdiv 2) 5 30) (b := a) (by omega) (by omega)
  rw [w32_id (x := 10 * _) (by unfold r32; omega)]
  by_cases h : w = 0
  · rw [if_pos h, if_pos h, sb, w32_id (by unfold r32; omega)]
  · rw [if_neg h, if_neg h, sb, w32_id (by unfold r32; omega)]
theorem pu_loss (M : MM) {a w d : Int} (ha : 0 ≤ a ∧ a ≤ 40) (hd : 5 ≤ d ∧ d ≤ 30) : f_X12_loss M a w d = some (10 * ds d a + (if w = 0 then 0 else 6)) := by
  unfold f_X12_loss ds
  rw [bI_eq, w32_id (x := d - a) (by unfold r32; omega), w32_id (x := 10 * (d - a)) (by unfold r32; omega), w32_id (x := -(10 * (d - a))) (by unfold r32; omega)]
  by_cases h1 : 10 * (d - a) < 0
  · have e : (if a < d then d - a else a - d) = a - d := by split <;> omega
    rw [if_pos h1, sb, e]
    by_cases h : w = 0
    · rw [if_pos h, if_pos h, sb, w32_id (by unfold r32; omega)]
      congr 1
      omega
    · rw [if_neg h, if_neg h, sb, w32_id (by unfold r32; omega)]
      congr 1
      omega
  · rw [if_neg h1, sb]
    have e : (if a < d then d - a else a - d) = d - a := by split <;> omega
    rw [e]
    by_cases h : w = 0
    · rw [if_pos h, if_pos h, sb, w32_id (by unfold r32; omega)]
    · rw [if_neg h, if_neg h, sb, w32_id (by unfold r32; omega)]
theorem pu_lossBy (M : MM) {own th i k : Int} (hi : 0 ≤ i ∧ i < 10) (hk : 0 ≤ k ∧ k < 10) (ha : 0 ≤ M 99 i.toNat ∧ M 99 i.toNat ≤ 40) (hb : 0 ≤ M 99 k.toNat ∧ M 99 k.toNat ≤ 40) : f_X12_lossBy M own th i k = some (lo (M 99 i.toNat) own (M 99 k.toNat) th) := by
  have s1 := sd_r (w := own) ha
  have s2 := sd_r (w := th) hb
  unfold f_X12_lossBy lo
  rw [gd_t hi, gd_t hi, pu_said12 M ha, sb, gd_t hk, pu_said12 M hb, sb, w32_id (x := sd _ _ + sd _ _) (by unfold r32; omega), w32_id (td_r (by omega)), pu_within, sb]
  have c1 := cl_r (a := (sd (M 99 i.toNat) own + sd (M 99 k.toNat) th).tdiv 2) (b := 5) (c := 30) (by omega)
  rw [pu_loss M ha c1, sb]

def Seg (E : EE) (md : MD) (mc ms : Nat) {X : Type} (o : Option X) (t : (Option CV → CW → Prop) → X → Prop) (pc : Nat) (L : List (Option CV)) (S : List CV) (w : CW) (k n : Nat) : Prop :=
  ∀ K x, o = some x → t K x → GG E md mc ms K pc L S w k n
section SEG
variable {E : EE} {md : MD} {mc ms : Nat} {pc : Nat} {L : List (Option CV)} {S : List CV} {w : CW} {k n : Nat} {X Y : Type} {o o1 o2 : Option X} {t : (Option CV → CW → Prop) → X → Prop}
theorem Seg.step {pc' : Nat} {L' : List (Option CV)} {S' : List CV} {w' : CW} {k' n' : Nat} (h : Sp E md mc ms pc L S w k n pc' L' S' w' k' n') (g : Seg E md mc ms o t pc' L' S' w' k' n') : Seg E md mc ms o t pc L S w k n :=
  fun K x hx ht => h K (g K x hx ht)
theorem S_gd {c : Prop} [Decidable c] (h : c → Seg E md mc ms o t pc L S w k n) : Seg E md mc ms (gd c o) t pc L S w k n :=
  fun K x hx ht => h (gd_s hx).1 K x (gd_s hx).2 ht
theorem S_ite {c : Prop} [Decidable c] (h1 : c → Seg E md mc ms o1 t pc L S w k n) (h2 : ¬ c → Seg E md mc ms o2 t pc L S w k n) : Seg E md mc ms (if c then o1 else o2) t pc L S w k n := by
  intro K x hx ht
  by_cases q : c
  · rw [if_pos q] at hx; exact h1 q K x hx ht
  · rw [if_neg q] at hx; exact h2 q K x hx ht
theorem S_arr {z : X} (h : ∀ K, t K z → GG E md mc ms K pc L S w k n) : Seg E md mc ms (some z) t pc L S w k n := by
  intro K x hx ht
  cases hx
  exact h K ht
def Lle : List (Option CV) → List (Option CV) → Prop
  | [], _ => True
  | none :: a, _ :: b => Lle a b
  | some v :: a, some u :: b => v = u ∧ Lle a b
  | _, _ => False
theorem Lle.at : ∀ {A B : List (Option CV)}, Lle A B → ∀ {i : Nat} {v : CV}, A[i]? = some (some v) → B[i]? = some (some v)
  | [], _, _, i, v, h => by simp at h
  | none :: a, _ :: b, hh, 0, v, h => by simp at h
  | none :: a, _ :: b, hh, i + 1, v, h => by
    have hh' : Lle a b := hh
    simpa using Lle.at hh' (i := i) (v := v) (by simpa using h)
  | some u :: a, some u' :: b, hh, 0, v, h => by
    obtain ⟨e, -⟩ := hh
    subst e
    simpa using h
  | some u :: a, some u' :: b, hh, i + 1, v, h => by
    obtain ⟨-, hh'⟩ := hh
    simpa using Lle.at hh' (i := i) (v := v) (by simpa using h)
  | some u :: a, none :: b, hh, i, v, h => False.elim hh
  | some u :: a, [], hh, i, v, h => False.elim hh
  | none :: a, [], hh, i, v, h => False.elim hh
theorem GG.forget {K : Option CV → CW → Prop} {L' : List (Option CV)} (hl : Lle L' L) (g : GG E md mc ms K pc L' S w k n) : GG E md mc ms K pc L S w k n := by
  intro p e s m args below meth c H locs ls cx rc hS hb h1 ol os
  refine g p e s m args below meth c H locs ls cx rc hS hb (LH.mk h1.1 h1.2.1 fun i v hi => h1.at (hl.at hi)) (fun v hv => ?_) os
  obtain ⟨i, hi⟩ := List.getElem?_of_mem hv
  exact ol.at (hl.at hi)
theorem S_bind {kk : Y → Option X} {o1 : Option Y} (J : Nat) (fl : Y → List (Option CV)) (fs : Y → List CV) (fw : Y → CW) {k' n' : Nat} (h1 : Seg E md mc ms o1 (fun K x => GG E md mc ms K J (fl x) (fs x) (fw x) k' n') pc L S w k n)
    (h2 : ∀ x, Seg E md mc ms (kk x) t J (fl x) (fs x) (fw x) k' n') : Seg E md mc ms (o1.bind kk) t pc L S w k n := by
  intro K x hx ht
  obtain ⟨y, hy, hz⟩ := Option.bind_eq_some_iff.mp hx
  exact h1 K y hy (h2 y K x hz ht)
def bS {Y Z X : Type} (o : Option (Y ⊕ Z)) (f : Y → Option X) (ρ : Z → X) : Option X := o.bind (fun z => match z with
  | .inl x => f x
  | .inr r => some (ρ r))
theorem S_bind2 {Z : Type} {kk : Y → Option X} {o1 : Option (Y ⊕ Z)} {ρ : Z → X} (J : Nat) (fl : Y → List (Option CV)) (fs : Y → List CV) (fw : Y → CW) {k' n' : Nat}
    (h1 : Seg E md mc ms o1 (fun K z => match z with
      | .inl x => GG E md mc ms K J (fl x) (fs x) (fw x) k' n'
      | .inr r => t K (ρ r)) pc L S w k n)
    (h2 : ∀ x, Seg E md mc ms (kk x) t J (fl x) (fs x) (fw x) k' n') : Seg E md mc ms (bS o1 kk ρ) t pc L S w k n := by
  intro K x hx ht
  obtain ⟨y, hy, hz⟩ := Option.bind_eq_some_iff.mp hx
  rcases y with y | r
  · exact h1 K _ hy (h2 y K x hz ht)
  · cases hz
    exact h1 K _ hy ht
theorem S_loop {step : Y → Option (Y ⊕ X)} (fl : Y → List (Option CV)) (fs : Y → List CV) (fw : Y → CW)
    (h : ∀ x, Seg E md mc ms (step x) (fun K z => match z with
      | .inl x' => GG E md mc ms K pc (fl x') (fs x') (fw x') k n
      | .inr y => t K y) pc (fl x) (fs x) (fw x) k n) : ∀ (N : Nat) (x : Y), Seg E md mc ms (lp step N x) t pc (fl x) (fs x) (fw x) k n
  | 0, x => fun K y hy ht => by cases hy
  | N + 1, x => by
    intro K y hy ht
    rw [lp] at hy
    obtain ⟨z, hz, hz2⟩ := Option.bind_eq_some_iff.mp hy
    rcases z with x' | y'
    · exact h x K _ hz (S_loop fl fs fw h N x' K y hz2 ht)
    · cases hz2
      exact h x K _ hz ht
theorem S_if_eq {x : Int} {off : Int} {tgt : Nat} (hd : decode md.2.1 pc = .ok (.ifCond .eq off, 3)) (ht : (pc : Int) + off = (tgt : Int)) (h1 : x = 0 → Seg E md mc ms o1 t tgt L S w k n) (h2 : ¬ (x = 0) → Seg E md mc ms o2 t (pc + 3) L S w k n) : Seg E md mc ms (if x = 0 then o1 else o2) t pc L (iV x :: S) w k n := by
  intro K z hz htt p e s m args below meth c H locs ls cx rc hS hb hl ol os
  have ox : okv (iV x) := os.h
  refine lv_if_eq cx.1 cx.2.1 hd ht (fun q => ?_) (fun q => ?_)
  · have cc : x = 0 := (eqI ox r0).mp (q.trans z32.symm)
    rw [if_pos cc] at hz
    exact h1 cc K z hz htt p e s m args below meth c H locs ls cx rc hS hb hl ol os.t
  · have cc : ¬ (x = 0) := fun z9 => q (by rw [z9]; exact z32)
    rw [if_neg cc] at hz
    exact h2 cc K z hz htt p e s m args below meth c H locs ls cx rc hS hb hl ol os.t
theorem S_if_ne {x : Int} {off : Int} {tgt : Nat} (hd : decode md.2.1 pc = .ok (.ifCond .ne off, 3)) (ht : (pc : Int) + off = (tgt : Int)) (h1 : x = 0 → Seg E md mc ms o1 t (pc + 3) L S w k n) (h2 : ¬ (x = 0) → Seg E md mc ms o2 t tgt L S w k n) : Seg E md mc ms (if x = 0 then o1 else o2) t pc L (iV x :: S) w k n := by
  intro K z hz htt p e s m args below meth c H locs ls cx rc hS hb hl ol os
  have ox : okv (iV x) := os.h
  refine lv_if_ne cx.1 cx.2.1 hd ht (fun q => ?_) (fun q => ?_)
  · have cc : ¬ (x = 0) := fun z9 => q (by rw [z9]; exact z32)
    rw [if_neg cc] at hz
    exact h2 cc K z hz htt p e s m args below meth c H locs ls cx rc hS hb hl ol os.t
  · have cc : x = 0 := (eqI ox r0).mp (q.trans z32.symm)
    rw [if_pos cc] at hz
    exact h1 cc K z hz htt p e s m args below meth c H locs ls cx rc hS hb hl ol os.t
theorem S_if_lt {x : Int} {off : Int} {tgt : Nat} (hd : decode md.2.1 pc = .ok (.ifCond .lt off, 3)) (ht : (pc : Int) + off = (tgt : Int)) (h1 : x < 0 → Seg E md mc ms o1 t tgt L S w k n) (h2 : ¬ (x < 0) → Seg E md mc ms o2 t (pc + 3) L S w k n) : Seg E md mc ms (if x < 0 then o1 else o2) t pc L (iV x :: S) w k n := by
  intro K z hz htt p e s m args below meth c H locs ls cx rc hS hb hl ol os
  have ox : okv (iV x) := os.h
  refine lv_if_lt cx.1 cx.2.1 hd ht (fun q => ?_) (fun q => ?_)
  · have cc : x < 0 := (ltI ox r0).mp q
    rw [if_pos cc] at hz
    exact h1 cc K z hz htt p e s m args below meth c H locs ls cx rc hS hb hl ol os.t
  · have cc : ¬ (x < 0) := fun z9 => q ((ltI ox r0).mpr z9)
    rw [if_neg cc] at hz
    exact h2 cc K z hz htt p e s m args below meth c H locs ls cx rc hS hb hl ol os.t
theorem S_if_ge {x : Int} {off : Int} {tgt : Nat} (hd : decode md.2.1 pc = .ok (.ifCond .ge off, 3)) (ht : (pc : Int) + off = (tgt : Int)) (h1 : x < 0 → Seg E md mc ms o1 t (pc + 3) L S w k n) (h2 : ¬ (x < 0) → Seg E md mc ms o2 t tgt L S w k n) : Seg E md mc ms (if x < 0 then o1 else o2) t pc L (iV x :: S) w k n := by
  intro K z hz htt p e s m args below meth c H locs ls cx rc hS hb hl ol os
  have ox : okv (iV x) := os.h
  refine lv_if_ge cx.1 cx.2.1 hd ht (fun q => ?_) (fun q => ?_)
  · have cc : ¬ (x < 0) := Int.not_lt.mpr ((leI r0 ox).mp q)
    rw [if_neg cc] at hz
    exact h2 cc K z hz htt p e s m args below meth c H locs ls cx rc hS hb hl ol os.t
  · have cc : x < 0 := Int.not_le.mp (fun z9 => q ((leI r0 ox).mpr z9))
    rw [if_pos cc] at hz
    exact h1 cc K z hz htt p e s m args below meth c H locs ls cx rc hS hb hl ol os.t
theorem S_if_gt {x : Int} {off : Int} {tgt : Nat} (hd : decode md.2.1 pc = .ok (.ifCond .gt off, 3)) (ht : (pc : Int) + off = (tgt : Int)) (h1 : 0 < x → Seg E md mc ms o1 t tgt L S w k n) (h2 : ¬ (0 < x) → Seg E md mc ms o2 t (pc + 3) L S w k n) : Seg E md mc ms (if 0 < x then o1 else o2) t pc L (iV x :: S) w k n := by
  intro K z hz htt p e s m args below meth c H locs ls cx rc hS hb hl ol os
  have ox : okv (iV x) := os.h
  refine lv_if_gt cx.1 cx.2.1 hd ht (fun q => ?_) (fun q => ?_)
  · have cc : 0 < x := (ltI r0 ox).mp q
    rw [if_pos cc] at hz
    exact h1 cc K z hz htt p e s m args below meth c H locs ls cx rc hS hb hl ol os.t
  · have cc : ¬ (0 < x) := fun z9 => q ((ltI r0 ox).mpr z9)
    rw [if_neg cc] at hz
    exact h2 cc K z hz htt p e s m args below meth c H locs ls cx rc hS hb hl ol os.t
theorem S_if_le {x : Int} {off : Int} {tgt : Nat} (hd : decode md.2.1 pc = .ok (.ifCond .le off, 3)) (ht : (pc : Int) + off = (tgt : Int)) (h1 : 0 < x → Seg E md mc ms o1 t (pc + 3) L S w k n) (h2 : ¬ (0 < x) → Seg E md mc ms o2 t tgt L S w k n) : Seg E md mc ms (if 0 < x then o1 else o2) t pc L (iV x :: S) w k n := by
  intro K z hz htt p e s m args below meth c H locs ls cx rc hS hb hl ol os
  have ox : okv (iV x) := os.h
  refine lv_if_le cx.1 cx.2.1 hd ht (fun q => ?_) (fun q => ?_)
  · have cc : ¬ (0 < x) := Int.not_lt.mpr ((leI ox r0).mp q)
    rw [if_neg cc] at hz
    exact h2 cc K z hz htt p e s m args below meth c H locs ls cx rc hS hb hl ol os.t
  · have cc : 0 < x := Int.not_le.mp (fun z9 => q ((leI ox r0).mpr z9))
    rw [if_pos cc] at hz
    exact h1 cc K z hz htt p e s m args below meth c H locs ls cx rc hS hb hl ol os.t
theorem S_icmp_eq {x y : Int} {off : Int} {tgt : Nat} (hd : decode md.2.1 pc = .ok (.if_icmp .eq off, 3)) (ht : (pc : Int) + off = (tgt : Int)) (h1 : x = y → Seg E md mc ms o1 t tgt L S w k n) (h2 : ¬ (x = y) → Seg E md mc ms o2 t (pc + 3) L S w k n) : Seg E md mc ms (if x = y then o1 else o2) t pc L (iV y :: iV x :: S) w k n := by
  intro K z hz htt p e s m args below meth c H locs ls cx rc hS hb hl ol os
  have ox : okv (iV x) := os.t.h
  have oy : okv (iV y) := os.h
  refine lv_icmp_eq cx.1 cx.2.1 hd ht (fun q => ?_) (fun q => ?_)
  · have cc : x = y := (eqI ox oy).mp q
    rw [if_pos cc] at hz
    exact h1 cc K z hz htt p e s m args below meth c H locs ls cx rc hS hb hl ol os.t.t
  · have cc : ¬ (x = y) := fun z9 => q (by rw [z9])
    rw [if_neg cc] at hz
    exact h2 cc K z hz htt p e s m args below meth c H locs ls cx rc hS hb hl ol os.t.t
theorem S_icmp_ne {x y : Int} {off : Int} {tgt : Nat} (hd : decode md.2.1 pc = .ok (.if_icmp .ne off, 3)) (ht : (pc : Int) + off = (tgt : Int)) (h1 : x = y → Seg E md mc ms o1 t (pc + 3) L S w k n) (h2 : ¬ (x = y) → Seg E md mc ms o2 t tgt L S w k n) : Seg E md mc ms (if x = y then o1 else o2) t pc L (iV y :: iV x :: S) w k n := by
  intro K z hz htt p e s m args below meth c H locs ls cx rc hS hb hl ol os
  have ox : okv (iV x) := os.t.h
  have oy : okv (iV y) := os.h
  refine lv_icmp_ne cx.1 cx.2.1 hd ht (fun q => ?_) (fun q => ?_)
  · have cc : ¬ (x = y) := fun z9 => q (by rw [z9])
    rw [if_neg cc] at hz
    exact h2 cc K z hz htt p e s m args below meth c H locs ls cx rc hS hb hl ol os.t.t
  · have cc : x = y := (eqI ox oy).mp q
    rw [if_pos cc] at hz
    exact h1 cc K z hz htt p e s m args below meth c H locs ls cx rc hS hb hl ol os.t.t
theorem S_icmp_lt {x y : Int} {off : Int} {tgt : Nat} (hd : decode md.2.1 pc = .ok (.if_icmp .lt off, 3)) (ht : (pc : Int) + off = (tgt : Int)) (h1 : x < y → Seg E md mc ms o1 t tgt L S w k n) (h2 : ¬ (x < y) → Seg E md mc ms o2 t (pc + 3) L S w k n) : Seg E md mc ms (if x < y then o1 else o2) t pc L (iV y :: iV x :: S) w k n := by
  intro K z hz htt p e s m args below meth c H locs ls cx rc hS hb hl ol os
  have ox : okv (iV x) := os.t.h
  have oy : okv (iV y) := os.h
  refine lv_icmp_lt cx.1 cx.2.1 hd ht (fun q => ?_) (fun q => ?_)
  · have cc : x < y := (ltI ox oy).mp q
    rw [if_pos cc] at hz
    exact h1 cc K z hz htt p e s m args below meth c H locs ls cx rc hS hb hl ol os.t.t
  · have cc : ¬ (x < y) := fun z9 => q ((ltI ox oy).mpr z9)
    rw [if_neg cc] at hz
    exact h2 cc K z hz htt p e s m args below meth c H locs ls cx rc hS hb hl ol os.t.t
theorem S_icmp_ge {x y : Int} {off : Int} {tgt : Nat} (hd : decode md.2.1 pc = .ok (.if_icmp .ge off, 3)) (ht : (pc : Int) + off = (tgt : Int)) (h1 : x < y → Seg E md mc ms o1 t (pc + 3) L S w k n) (h2 : ¬ (x < y) → Seg E md mc ms o2 t tgt L S w k n) : Seg E md mc ms (if x < y then o1 else o2) t pc L (iV y :: iV x :: S) w k n := by
  intro K z hz htt p e s m args below meth c H locs ls cx rc hS hb hl ol os
  have ox : okv (iV x) := os.t.h
  have oy : okv (iV y) := os.h
  refine lv_icmp_ge cx.1 cx.2.1 hd ht (fun q => ?_) (fun q => ?_)
  · have cc : ¬ (x < y) := Int.not_lt.mpr ((leI oy ox).mp q)
    rw [if_neg cc] at hz
    exact h2 cc K z hz htt p e s m args below meth c H locs ls cx rc hS hb hl ol os.t.t
  · have cc : x < y := Int.not_le.mp (fun z9 => q ((leI oy ox).mpr z9))
    rw [if_pos cc] at hz
    exact h1 cc K z hz htt p e s m args below meth c H locs ls cx rc hS hb hl ol os.t.t
theorem S_icmp_gt {x y : Int} {off : Int} {tgt : Nat} (hd : decode md.2.1 pc = .ok (.if_icmp .gt off, 3)) (ht : (pc : Int) + off = (tgt : Int)) (h1 : y < x → Seg E md mc ms o1 t tgt L S w k n) (h2 : ¬ (y < x) → Seg E md mc ms o2 t (pc + 3) L S w k n) : Seg E md mc ms (if y < x then o1 else o2) t pc L (iV y :: iV x :: S) w k n := by
  intro K z hz htt p e s m args below meth c H locs ls cx rc hS hb hl ol os
  have ox : okv (iV x) := os.t.h
  have oy : okv (iV y) := os.h
  refine lv_icmp_gt cx.1 cx.2.1 hd ht (fun q => ?_) (fun q => ?_)
  · have cc : y < x := (ltI oy ox).mp q
    rw [if_pos cc] at hz
    exact h1 cc K z hz htt p e s m args below meth c H locs ls cx rc hS hb hl ol os.t.t
  · have cc : ¬ (y < x) := fun z9 => q ((ltI oy ox).mpr z9)
    rw [if_neg cc] at hz
    exact h2 cc K z hz htt p e s m args below meth c H locs ls cx rc hS hb hl ol os.t.t
theorem S_icmp_le {x y : Int} {off : Int} {tgt : Nat} (hd : decode md.2.1 pc = .ok (.if_icmp .le off, 3)) (ht : (pc : Int) + off = (tgt : Int)) (h1 : y < x → Seg E md mc ms o1 t (pc + 3) L S w k n) (h2 : ¬ (y < x) → Seg E md mc ms o2 t tgt L S w k n) : Seg E md mc ms (if y < x then o1 else o2) t pc L (iV y :: iV x :: S) w k n := by
  intro K z hz htt p e s m args below meth c H locs ls cx rc hS hb hl ol os
  have ox : okv (iV x) := os.t.h
  have oy : okv (iV y) := os.h
  refine lv_icmp_le cx.1 cx.2.1 hd ht (fun q => ?_) (fun q => ?_)
  · have cc : ¬ (y < x) := Int.not_lt.mpr ((leI ox oy).mp q)
    rw [if_neg cc] at hz
    exact h2 cc K z hz htt p e s m args below meth c H locs ls cx rc hS hb hl ol os.t.t
  · have cc : y < x := Int.not_le.mp (fun z9 => q ((leI ox oy).mpr z9))
    rw [if_pos cc] at hz
    exact h1 cc K z hz htt p e s m args below meth c H locs ls cx rc hS hb hl ol os.t.t
theorem I_tsw {dflt lo hi : Int} {offs : Array Int} {len : Nat} {x v : Int} {off : Int} {tgt : Nat} (hd : decode md.2.1 pc = .ok (.tableswitch dflt lo hi offs, len)) (hx : x = v) (h1 : lo ≤ v ∧ v ≤ hi) (ho : offs[(v - lo).toNat]? = some off) (ht : (pc : Int) + off = (tgt : Int)) : Sp E md mc ms pc L (iV x :: S) w k n tgt L S w k n := by
  intro K g p e s m args below meth c H locs ls cx rc hS hb hl ol os
  have e1 : (Int32.ofInt x).toInt = v := by rw [tIr os.h, hx]
  exact lv_tableIn cx.1 cx.2.1 hd (by rw [e1]; omega) (by rw [e1]; omega) (by rw [e1]; exact ho) ht (g p e s m args below meth c H locs ls cx rc hS hb hl ol os.t)
theorem I_tswd {dflt lo hi : Int} {offs : Array Int} {len : Nat} {x : Int} {tgt : Nat} (hd : decode md.2.1 pc = .ok (.tableswitch dflt lo hi offs, len)) (hx : x < lo ∨ hi < x) (ht : (pc : Int) + dflt = (tgt : Int)) : Sp E md mc ms pc L (iV x :: S) w k n tgt L S w k n := by
  intro K g p e s m args below meth c H locs ls cx rc hS hb hl ol os
  exact lv_tableOut cx.1 cx.2.1 hd (by rw [tIr os.h]; exact hx) ht (g p e s m args below meth c H locs ls cx rc hS hb hl ol os.t)
theorem I_lsw {dflt : Int} {ps : Array (Int × Int)} {len : Nat} {x : Int} {off : Int} {tgt : Nat} (hd : decode md.2.1 pc = .ok (.lookupswitch dflt ps, len)) (hp : (ps.toList.zip (ps.toList.drop 1)).all (fun (a, next) => a.1 < next.1) = true) (ho : Op.lookupswitch.offset ps.toList dflt x = off) (ht : (pc : Int) + off = (tgt : Int)) : Sp E md mc ms pc L (iV x :: S) w k n tgt L S w k n := by
  intro K g p e s m args below meth c H locs ls cx rc hS hb hl ol os
  exact lv_lookup cx.1 cx.2.1 hd hp (by rw [tIr os.h]; exact ho) ht (g p e s m args below meth c H locs ls cx rc hS hb hl ol os.t)
theorem RepC.back {E : EE} {s t : State} {w : CW} {H : Heap} (h : RepC E s w H) (ht : t.heap = H) (hW : s.WarmedH t.vm) : RepS E w t := h.enter ht hW
theorem S_iret {z : X} {x : Int} (hd : decode md.2.1 pc = .ok (.ireturn, 1)) (hr : md.2.2.2.1 = some .int) (hk : k ≤ mc) (hn : n ≤ ms) (h : ∀ K, t K z → K (some (iV x)) w) : Seg E md mc ms (some z) t pc L [iV x] w k n := by
  intro K y hy ht p e s m args below meth c H locs ls cx rc hS hb hl ol os
  cases hy
  refine W.widen (k := mc) (n := ms) hk hn ?_
  exact W.iret cx.1 cx.2.1 (cx.2.2.1.trans hr) (fun t1 e1 hW => ⟨⟨some (iV x), w, rfl, h K ht, fun v hv => by cases hv; exact os.h, rc.back e1 hW⟩, hS.F e1⟩) hS.2.2 hd cx.2.2.2.2.2.1
theorem S_zret {z : X} {x : Int} (hd : decode md.2.1 pc = .ok (.ireturn, 1)) (hr : md.2.2.2.1 = some .boolean) (hx : x = 0 ∨ x = 1) (hk : k ≤ mc) (hn : n ≤ ms) (h : ∀ K, t K z → K (some (iV x)) w) : Seg E md mc ms (some z) t pc L [iV x] w k n := by
  intro K y hy ht p e s m args below meth c H locs ls cx rc hS hb hl ol os
  cases hy
  refine W.widen (k := mc) (n := ms) hk hn ?_
  exact W.zret (ty := .boolean) cx.1 cx.2.1 (cx.2.2.1.trans hr) (nar_Z hx).1 (fun t1 e1 hW => ⟨⟨some (iV x), w, rfl, h K ht, fun v hv => by cases hv; exact os.h, rc.back e1 hW⟩, hS.F e1⟩) hS.2.2 hd cx.2.2.2.2.2.1
theorem S_lret {z : X} {x : Int} (hd : decode md.2.1 pc = .ok (.lreturn, 1)) (hr : md.2.2.2.1 = some .long) (hk : k ≤ mc) (hn : n ≤ ms) (h : ∀ K, t K z → K (some (jV x)) w) : Seg E md mc ms (some z) t pc L [jV x] w k n := by
  intro K y hy ht p e s m args below meth c H locs ls cx rc hS hb hl ol os
  cases hy
  refine W.widen (k := mc) (n := ms) hk hn ?_
  exact W.lret cx.1 cx.2.1 (cx.2.2.1.trans hr) (fun t1 e1 hW => ⟨⟨some (jV x), w, rfl, h K ht, fun v hv => by cases hv; exact os.h, rc.back e1 hW⟩, hS.F e1⟩) hS.2.2 hd cx.2.2.2.2.2.1
theorem S_vret {z : X} (hd : decode md.2.1 pc = .ok (.return_, 1)) (hr : md.2.2.2.1 = none) (hk : k ≤ mc) (hn : n ≤ ms) (h : ∀ K, t K z → K none w) : Seg E md mc ms (some z) t pc L [] w k n := by
  intro K y hy ht p e s m args below meth c H locs ls cx rc hS hb hl ol os
  cases hy
  refine W.widen (k := mc) (n := ms) hk hn ?_
  exact W.vret cx.1 cx.2.1 (cx.2.2.1.trans hr) (fun t1 e1 hW => ⟨⟨none, w, rfl, h K ht, fun v hv => (by cases hv), rc.back e1 hW⟩, hS.F e1⟩) hS.2.2 hd cx.2.2.2.2.2.1
theorem Seg.forget {L' : List (Option CV)} (hl : Lle L' L) (g : Seg E md mc ms o t pc L' S w k n) : Seg E md mc ms o t pc L S w k n := fun K x hx ht => GG.forget hl (g K x hx ht)
theorem Lle.nil {B : List (Option CV)} : Lle [] B := trivial
theorem Lle.no {A B : List (Option CV)} {x : Option CV} (h : Lle A B) : Lle (none :: A) (x :: B) := h
theorem Lle.ye {A B : List (Option CV)} {v : CV} (h : Lle A B) : Lle (some v :: A) (some v :: B) := ⟨rfl, h⟩
def bM (M : MM) (f : MM → Option X) : Option X := f M
def bI (x : Int) (f : Int → Option X) : Option X := f x
def gH (z : Int) (f : Nat → Option X) : Option X := if z = 8 ∨ z = 31 then f z.toNat else none
theorem S_bM {f : MM → Option X} {sh : List (Nat × Nat)} {ex : Bool} {R : RM} {M : MM} (h : ∀ M', Seg E md mc ms (f M') t pc L S (sh, ex, R, M') k n) : Seg E md mc ms (bM M f) t pc L S (sh, ex, R, M) k n := h M
theorem S_bI {f : Int → Option X} {x : Int} (h : ∀ y, Seg E md mc ms (f y) t pc L (iV y :: S) w k n) : Seg E md mc ms (bI x f) t pc L (iV x :: S) w k n := h x
theorem S_bJ {f : Int → Option X} {x : Int} (h : ∀ y, Seg E md mc ms (f y) t pc L (jV y :: S) w k n) : Seg E md mc ms (bI x f) t pc L (jV x :: S) w k n := h x
theorem S_gH {f : Nat → Option X} {z : Int} (h : ∀ y : Nat, y = 8 ∨ y = 31 → z = (y : Int) → Seg E md mc ms (f y) t pc L S w k n) : Seg E md mc ms (gH z f) t pc L S w k n := by
  unfold gH
  split
  · rename_i c
    exact h z.toNat (by omega) (by omega)
  · intro K x hx _
    cases hx
theorem S_wrap {Z : Type} {o1 : Option Z} (ρ : Z → X) (h : Seg E md mc ms o1 (fun K z => t K (ρ z)) pc L S w k n) : Seg E md mc ms (o1.bind (fun r => some (ρ r))) t pc L S w k n := by
  intro K x hx ht
  obtain ⟨y, hy, hz⟩ := Option.bind_eq_some_iff.mp hx
  cases hz
  exact h K y hy ht
def FU : Nat := 1000000
theorem MetC.seg {args : List CV} {K : Option CV → CW → Prop} {x : X} (hy : plainName md.1.cls = true) (hL : L = enL args ++ List.replicate (md.2.2.1 - (enL args).length) none) (hn : (enL args).length ≤ md.2.2.1) (h : Seg E md mc ms o t 0 L [] w 0 0) (hx : o = some x) (ht : t K x) : MetC E md mc ms args w K :=
  MetC.of hy L hL hn (h K x hx ht)
end SEG

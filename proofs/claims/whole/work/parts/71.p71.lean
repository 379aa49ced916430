section MOD2
variable {N H S B : MM} {LV : LVT} {b : Nat} {fl : Prop} {o : Int}
theorem up_FN {i : Nat} {v : Int} : FN (upM N 114 i v) N := fun a j h1 _ _ => up_na h1
theorem m_names (hH : HM N H) (hHo : HOK H) (hT : TM N S) (hR : RW N H S b) (ht : N 127 b = S 0 2) (hd : N 121 b = S 0 3) (hSo : SOK H S) (hb : b < 2) (hs : -50 ≤ N 88 77 ∧ N 88 77 ≤ 50) (ho : o = cl (aOut H (S 0 2) + N 88 77) 0 400) {r : Nat} (hr : (r : Int) < H 1 0) (felt wish : Int) : ∃ N', f_X12_layNames N (b : Int) (r : Int) felt wish = some N' ∧ (∀ j, j < 7 → N' 114 j = aNm S o r felt wish (aLeak H S r) j) ∧ ∀ a, a ≠ 114 → N' a = N a := by
  have h5 := hHo.1
  have h0 := hSo.1
  have hst := hSo.2.1
  have eR := (hR r hr).1
  have ei : (5 * (b : Int) + (r : Int)).toNat = 5 * b + r := by omega
  unfold f_X12_layNames
  simp (disch := omega) only [w32_i (x := 5 * (b : Int)), w32_i (x := 5 * (b : Int) + (r : Int)), ei, gd_t, bM_eq, Int.toNat_natCast, up_na, ht]
  have f1 : FN (upM N 114 0 (N 116 (5 * b + r))) N := up_FN
  have eo := m_outOf (f1.hm hH) hHo (t := S 0 2) (by omega) (by rw [up_na (by omega)]; exact hs)
  rw [up_na (by omega), ← ho] at eo
  rw [eo, Option.bind_some, eR]
  have f2 : FN (upM (upM (upM (upM (upM N 114 0 (S 3 r)) 114 1 o) 114 2 felt) 114 3 wish) 114 4 (w32 (10 * N 121 b))) N := up_FN.tr (up_FN.tr (up_FN.tr (up_FN.tr up_FN)))
  simp (disch := omega) only [bM_eq, up_na, m_leak (f2.hm hH) hHo (f2.tm hT) hr, Option.bind_some]
  refine ⟨_, rfl, ?_, fun a ha => by simp only [up_row ha]⟩
  intro j hj
  have : j = 0 ∨ j = 1 ∨ j = 2 ∨ j = 3 ∨ j = 4 ∨ j = 5 ∨ j = 6 := by omega
  unfold aNm
  rcases this with rfl | rfl | rfl | rfl | rfl | rfl | rfl <;> simp (disch := omega) [up_ni, upM_eq, hd, w32_i, tmn, ht]
theorem m_bound (hL : ML N LV) (hLc : LVc LV) (hLr : LVr LV) {nm : Nat → Int} (hn : ∀ j, j < 7 → N 114 j = nm j) (ok : NmOK nm) {w : Nat} (hw : w < 3) {wi : Int} (hwi : wi = (w : Int)) {d lo hi : Int} (hlo : -1000 ≤ lo) (hle : lo ≤ hi) (hhi : hi ≤ 1000) (hd : lo ≤ d ∧ d ≤ hi) : ∃ N', f_X12_boundLaw N wi d lo hi = some (cl ((LV w nm).getD d) lo hi, N') ∧ FN N' N := by
  subst hwi
  obtain ⟨h1, h2⟩ := hL N (fun _ _ _ => rfl) w hw (fun j hj => by rw [hn j hj]; exact ok j hj)
  rw [hLc w (N 114) nm hn] at h2
  have ed : cl d lo hi = d := by unfold cl; rw [if_neg (by omega), if_neg (by omega)]
  unfold f_X12_boundLaw
  simp (disch := omega) only [gd_t, Int.toNat_natCast]
  by_cases q : N 106 w = 0
  · rw [if_pos q, h1 q nm]
    exact ⟨N, by rw [Option.getD_none, ed], FN.rf⟩
  · rw [if_neg q]
    obtain ⟨v, n', e, f, hc⟩ := h2 q
    have f' : FN n' N := fun a j x y z => f a j y z
    rw [e, Option.bind_some]
    dsimp only
    rcases hc with ⟨e1, e2⟩ | ⟨e1, e2⟩
    · rw [if_neg e2, e1]
      exact ⟨n', by rw [Option.getD_none, ed], f'⟩
    · have hv := hLr w nm v e1
      rw [if_pos e2, e1, Option.getD_some]
      refine ⟨n', ?_, f'⟩
      unfold cl
      by_cases q1 : v < lo
      · rw [if_pos ((cmpI_lt _ _).mpr q1), if_pos q1]
      · rw [if_neg (fun z => q1 ((cmpI_lt _ _).mp z)), if_neg q1]
        by_cases q2 : hi < v
        · rw [if_pos ((cmpI_gt _ _).mpr q2), if_pos q2]
        · rw [if_neg (fun z => q2 ((cmpI_gt _ _).mp z)), if_neg q2, w32_i (by omega) (by omega)]
theorem cl_o {x : Int} : 0 ≤ cl x 0 400 ∧ cl x 0 400 ≤ 400 := cl_r (by omega)
theorem cl_in {x lo hi : Int} (h : lo ≤ x ∧ x ≤ hi) : cl x lo hi = x := by unfold cl; rw [if_neg (by omega), if_neg (by omega)]
theorem m_loses (hH : HM N H) (hHo : HOK H) (hC : CM N H S B b fl) (hSo : SOK H S) (hL : ML N LV) (hLc : LVc LV) (hLr : LVr LV) (hb : b < 2) (hs : -50 ≤ N 88 77 ∧ N 88 77 ≤ 50) (ho : o = cl (aOut H (S 0 2) + N 88 77) 0 400) {r : Nat} (hr : (r : Int) < H 1 0) : ∃ N', f_X12_loses N (b : Int) (r : Int) = some (if S 1 4 = 0 then aLoss H LV S o r else 0, N') ∧ FN N' N := by
  obtain ⟨⟨ht, hd, _⟩, _, hR, _, _, _, hT⟩ := hC
  have h5 := hHo.1
  have h0 := hSo.1
  have hst := hSo.2.1
  have eR := (hR r hr).1
  have ei : (5 * (b : Int) + (r : Int)).toNat = 5 * b + r := by omega
  have hl := aLeak_r (S := S) hHo hr
  have hw := hSo.2.2.2.2.2.2.2.2.1 r (by omega)
  have hor := cl_o (x := aOut H (S 0 2) + N 88 77)
  have eo := m_outOf hH hHo (t := S 0 2) (by omega) hs
  rw [← ho] at eo hor
  have td := td100 (x := S 3 r - o) (y := aLeak H S r) (by omega) hl
  obtain ⟨N1, e1, n1, f1⟩ := m_names hH hHo hT hR ht hd hSo hb hs ho hr 0 0
  have g1 : FN N1 N := fun a j x _ _ => by rw [f1 a x]
  have ok := aNm_ok hHo hSo (r := r) (by omega) hor (felt := 0) (wish := 0) (by omega) (by omega) hl
  obtain ⟨N2, e2, f2⟩ := m_bound (g1.ml hL) hLc hLr n1 ok (w := 0) (by omega) (wi := 0) rfl (d := cl (((S 3 r - o) * aLeak H S r).tdiv 100) (-400) 400) (lo := -400) (hi := 400) (by omega) (by omega) (by omega) (cl_r (by omega))
  unfold f_X12_loses
  rw [hT.2.2.2.1]
  by_cases q : S 1 4 = 0
  · rw [if_pos q, if_pos q]
    refine ⟨N2, ?_, f2.tr g1⟩
    simp (disch := omega) only [w32_i, ei, gd_t, Int.toNat_natCast, ht, eo, m_leak hH hHo hT hr, Option.bind_some, eR, bI_eq, e1, pu_within, e2]
    unfold aLoss
    cases LV 0 (aNm S o r 0 0 (aLeak H S r)) with
    | none => rw [Option.getD_none, Option.getD_none, cl_in (cl_r (by omega))]
    | some v => rfl
  · rw [if_neg q, if_neg q]
    exact ⟨N, rfl, FN.rf⟩
theorem m_turnOf (hH : HM N H) (hHo : HOK H) (hC : CM N H S B b fl) (hSo : SOK H S) (hL : ML N LV) (hLc : LVc LV) (hLr : LVr LV) (hb : b < 2) (hs : -50 ≤ N 88 77 ∧ N 88 77 ≤ 50) (ho : o = cl (aOut H (S 0 2) + N 88 77) 0 400) (h16 : S 1 6 = -1) {p : Nat} (hp : (p : Int) < H 6 0) : ∃ N', f_X12_turnOf N (b : Int) (p : Int) = some (cl (aBy H LV S o p) (-9) 9, N') ∧ FN N' N := by
  obtain ⟨⟨ht, hd, _⟩, hJ, hR, _, _, _, hT⟩ := hC
  have h5 := hHo.1
  have h6 := hHo.2.1
  have hP := hHo.2.2.2.2.2.2.2.2.2.1 p hp
  obtain ⟨_, e98, e99, _, _⟩ := hH.2.2.1 p hp
  have hf := m_felt hH hHo hT hR (fun p hp => (hJ p hp).1) hSo hb hp
  have hfr := aFelt_r hHo hSo hp
  have hor := cl_o (x := aOut H (S 0 2) + N 88 77)
  rw [← ho] at hor
  have hl := aLeak_r (S := S) hHo (r := (H 8 p).toNat) (by omega)
  obtain ⟨N1, e1, n1, f1⟩ := m_names hH hHo hT hR ht hd hSo hb hs ho (r := (H 8 p).toNat) (by omega) (aFelt H S p) (10 * H 9 p)
  rw [show (((H 8 p).toNat : Nat) : Int) = H 8 p by omega] at e1
  have g1 : FN N1 N := fun a j x _ _ => by rw [f1 a x]
  have ok := aNm_ok hHo hSo (r := (H 8 p).toNat) (by omega) hor hfr (wish := 10 * H 9 p) (by omega) hl
  have hlk : aLeak H S (H 8 p).toNat = H 4 (H 8 p).toNat := by unfold aLeak; rw [if_neg (by omega)]
  rw [hlk] at n1 ok
  have zz : 0 ≤ (p : Int) ∧ (p : Int) < 10 := by omega
  unfold f_X12_turnOf
  rw [hf, Option.bind_some, gd_t zz, bI_eq, gd_t zz]
  simp (disch := omega) only [Int.toNat_natCast, e98, e99, w32_i, e1, Option.bind_some]
  unfold aBy
  by_cases q3 : aFelt H S p < 10 * H 9 p - 5
  · rw [if_pos q3, if_pos q3, Option.bind_some]
    obtain ⟨N2, e2, f2⟩ := m_bound (g1.ml hL) hLc hLr n1 ok (w := 1) (by omega) (wi := 1) rfl (d := 1) (lo := -9) (hi := 9) (by omega) (by omega) (by omega) (by omega)
    exact ⟨N2, by rw [e2, Option.bind_some], f2.tr g1⟩
  · rw [if_neg q3, if_neg q3]
    by_cases q4 : 10 * H 9 p + 5 < aFelt H S p
    · rw [if_pos q4, if_pos q4, Option.bind_some]
      obtain ⟨N2, e2, f2⟩ := m_bound (g1.ml hL) hLc hLr n1 ok (w := 1) (by omega) (wi := 1) rfl (d := (-1)) (lo := -9) (hi := 9) (by omega) (by omega) (by omega) (by omega)
      exact ⟨N2, by rw [e2, Option.bind_some], f2.tr g1⟩
    · rw [if_neg q4, if_neg q4, Option.bind_some]
      obtain ⟨N2, e2, f2⟩ := m_bound (g1.ml hL) hLc hLr n1 ok (w := 1) (by omega) (wi := 1) rfl (d := 0) (lo := -9) (hi := 9) (by omega) (by omega) (by omega) (by omega)
      exact ⟨N2, by rw [e2, Option.bind_some], f2.tr g1⟩
theorem m_crossOf (hH : HM N H) (hHo : HOK H) (hC : CM N H S B b fl) (hSo : SOK H S) (hL : ML N LV) (hLc : LVc LV) (hLr : LVr LV) (hb : b < 2) (hs : -50 ≤ N 88 77 ∧ N 88 77 ≤ 50) (ho : o = cl (aOut H (S 0 2) + N 88 77) 0 400) {p : Nat} (hp : (p : Int) < H 6 0) : ∃ v N', f_X12_crossOf N (b : Int) (p : Int) = some (v, N') ∧ FN N' N ∧ (S 1 6 = -1 → v = aCr H LV S o p) := by
  obtain ⟨⟨ht, hd, _⟩, hJ, hR, _, _, _, hT⟩ := hC
  have h5 := hHo.1
  have h6 := hHo.2.1
  have hP := hHo.2.2.2.2.2.2.2.2.2.1 p hp
  obtain ⟨_, e98, e99, _, _⟩ := hH.2.2.1 p hp
  have hf := m_felt hH hHo hT hR (fun p hp => (hJ p hp).1) hSo hb hp
  have hfr := aFelt_r hHo hSo hp
  have hor := cl_o (x := aOut H (S 0 2) + N 88 77)
  rw [← ho] at hor
  have hl := aLeak_r (S := S) hHo (r := (H 8 p).toNat) (by omega)
  obtain ⟨N1, e1, n1, f1⟩ := m_names hH hHo hT hR ht hd hSo hb hs ho (r := (H 8 p).toNat) (by omega) (aFelt H S p) (10 * H 9 p)
  rw [show (((H 8 p).toNat : Nat) : Int) = H 8 p by omega] at e1
  have g1 : FN N1 N := fun a j x _ _ => by rw [f1 a x]
  have ok := aNm_ok hHo hSo (r := (H 8 p).toNat) (by omega) hor hfr (wish := 10 * H 9 p) (by omega) hl
  have hdr : 0 ≤ ds (aFelt H S p) (10 * H 9 p) ∧ ds (aFelt H S p) (10 * H 9 p) ≤ 1000 := by unfold ds; split <;> omega
  obtain ⟨N2, e2, f2⟩ := m_bound (g1.ml hL) hLc hLr n1 ok (w := 2) (by omega) (wi := 2) rfl (d := ds (aFelt H S p) (10 * H 9 p) / 10) (lo := 0) (hi := 999) (by omega) (by omega) (by omega) (by omega)
  refine ⟨cl ((LV 2 (aNm S o (H 8 p).toNat (aFelt H S p) (10 * H 9 p) (aLeak H S (H 8 p).toNat))).getD (ds (aFelt H S p) (10 * H 9 p) / 10)) 0 999, N2, ?_, f2.tr g1, fun h16 => ?_⟩
  rotate_left
  · unfold aCr
    have hlk : aLeak H S (H 8 p).toNat = H 4 (H 8 p).toNat := by unfold aLeak; rw [if_neg (by omega)]
    rw [hlk]
  · unfold f_X12_crossOf
    have zz : 0 ≤ (p : Int) ∧ (p : Int) < 10 := by omega
    rw [hf, Option.bind_some, gd_t zz, bI_eq, gd_t zz]
    simp (disch := omega) only [Int.toNat_natCast, e98, e99, w32_i, e1, Option.bind_some]
    have ed : ((if 10 * H 9 p < aFelt H S p then some (aFelt H S p - 10 * H 9 p) else some (10 * H 9 p - aFelt H S p)) : Option Int) = some (ds (aFelt H S p) (10 * H 9 p)) := by
      unfold ds
      split <;> rfl
    rw [ed, Option.bind_some, tdn (by omega), w32_i (by omega) (by omega), e2, Option.bind_some]
end MOD2

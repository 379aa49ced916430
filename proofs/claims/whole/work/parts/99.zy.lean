section PURE
/-- the class's memory at first -/
def XC : MM := g_X11_init_0 (fun _ _ => 0)
theorem XC_4 : ∀ j, j < 20 → XC 4 j = WC j := by
  have h : ∀ j, j < 20 → g_X9_init_3 (fun _ _ => 0) 4 j = WC j := by decide +kernel
  intro j hj
  exact h j hj
def wf : MM → Nat → List Int → MM
  | M, _, [] => M
  | M, i, x :: l => wf (upM M 90 i x) (i + 1) l
theorem wf_a : ∀ (l : List Int) (M : MM) (i a j : Nat), ¬ (a = 90 ∧ i ≤ j ∧ j < i + l.length) → wf M i l a j = M a j
  | [], _, _, _, _, _ => rfl
  | x :: l, M, i, a, j, h => by
    show wf (upM M 90 i x) (i + 1) l a j = M a j
    rw [List.length_cons] at h
    rw [wf_a l _ (i + 1) a j (by omega), upM_ne a j (by omega)]
theorem wf_90 : ∀ (l : List Int) (M : MM) (i k : Nat), k < l.length → wf M i l 90 (i + k) = l.getD k 0
  | [], _, _, _, h => absurd h (Nat.not_lt_zero _)
  | x :: l, M, i, 0, _ => by
    show wf (upM M 90 i x) (i + 1) l 90 (i + 0) = x
    rw [wf_a l _ (i + 1) 90 (i + 0) (by omega)]
    exact upM_eq
  | x :: l, M, i, k + 1, h => by
    show wf (upM M 90 i x) (i + 1) l 90 (i + (k + 1)) = (x :: l).getD (k + 1) 0
    rw [show i + (k + 1) = i + 1 + k by omega, wf_90 l _ (i + 1) k (by rw [List.length_cons] at h; omega)]
    rfl
def WL : List Int := [114, 111, 111, 109, 32, 112, 101, 114, 115, 111, 110, 32, 115, 117, 110, 32, 111, 117, 116, 32, 107, 110, 111, 98, 32, 112, 114, 105, 99, 101, 32, 108, 97, 119, 32, 108, 111, 115, 101, 32, 116, 117, 114, 110, 32, 99, 114, 111, 115, 115, 32, 97, 110, 100, 32, 111, 114, 32, 110, 111, 116, 32, 119, 97, 114, 109, 32, 111, 117, 116, 101, 114, 32, 102, 101, 108, 116, 32, 119, 105, 115, 104, 32, 115, 101, 116, 32, 108, 101, 97, 107, 32, 104, 111, 117, 114, 32]
theorem NI_eq (M : MM) : h_X12_init_88 M = upM (upM (wf M 0 WL) 88 5 (-1)) 88 81 (-1) := rfl
theorem NI_a (M : MM) {a j : Nat} (h1 : a ≠ 90) (h2 : ¬ (a = 88 ∧ (j = 5 ∨ j = 81))) : h_X12_init_88 M a j = M a j := by
  rw [NI_eq, upM_ne a j (by omega), upM_ne a j (by omega), wf_a WL M 0 a j (by omega)]
theorem NI_90 (M : MM) {j : Nat} (hj : j < 97) : h_X12_init_88 M 90 j = WL.getD j 0 := by
  rw [NI_eq, up_na (by decide), up_na (by decide)]
  have := wf_90 WL M 0 j hj
  rw [Nat.zero_add] at this
  exact this
theorem NI_5 (M : MM) : h_X12_init_88 M 88 5 = -1 := by rw [NI_eq, up_ni (by decide), upM_eq]
theorem init_ok : ∃ y0, g_X12_init_88 XC = some y0 ∧ AL (clM y0 139) := by
  unfold g_X12_init_88
  obtain ⟨x1, e1, ⟨⟨⟨p17, p18, p19⟩, p20, p21, p48⟩, ⟨p910, p911⟩, ⟨p3, p4, p5⟩, p106⟩, f1⟩ := m_plainT (h_X12_init_88 XC)
  obtain ⟨y0, e2, ⟨⟨n1, n2, n3, n4, n5⟩, cp, ⟨b1, b2, ⟨b3, b4, b5, b6, b7, b8, b9⟩, b10, b11, b12, b13, b14⟩⟩, fn⟩ := m_keepT (N := x1) (fun l hl => Or.inl (p106 l hl))
  refine ⟨y0, by rw [e1, Option.bind_some, e2, Option.bind_some], ?_⟩
  have lo : ∀ a j, a < 88 → y0 a j = XC a j := fun a j h => by rw [fn a j (by omega) (by omega), f1 a j (by omega) (by omega) (by omega) (by omega), NI_a XC (by omega) (by omega)]
  have h88 : ∀ j, j = 1 ∨ j = 4 → y0 88 j = 0 := fun j hj => by
    rw [fn 88 j (by omega) (by omega), f1 88 j (by omega) (by omega) (by omega) (by omega), NI_a XC (by omega) (by omega)]
    rcases hj with e | e <;> subst e <;> rfl
  have h885 : y0 88 5 = -1 := by rw [fn 88 5 (by omega) (by omega), f1 88 5 (by omega) (by omega) (by omega) (by omega), NI_5]
  have h89 : ∀ j, y0 89 j = 0 := fun j => by
    rw [fn 89 j (by omega) (by omega), f1 89 j (by omega) (by omega) (by omega) (by omega), NI_a XC (by omega) (by omega)]
    rfl
  have h90 : ∀ j, j < 97 → y0 90 j = WL.getD j 0 := fun j hj => by
    rw [fn 90 j (by omega) (by omega), f1 90 j (by omega) (by omega) (by omega) (by omega), NI_90 XC hj]
  have ba : BA XC y0 8 (fun k => XC (8 + k)) (fun w nm => lvo none nm) (fun k => XC (54 + k)) := by
    have lp : ∀ w, w < 3 → LPD XC x1 8 w none := fun w hw => Or.inl ⟨rfl, p106 w hw, show ¬ (0 : Int) < 0 by decide⟩
    refine ⟨⟨Or.inl rfl, rfl, fun k _ _ _ => rfl, ?_, fun k _ => rfl⟩, ⟨?_, ?_, ?_⟩, ⟨?_, fun w a b _ => rfl, fun w a v hv => absurd hv (by show ¬ none = some v; simp), ?_, by unfold SP; decide, rfl⟩, ?_, ?_, by decide⟩
    · intro m hm w hw nm
      exact (lp w hw).cl hw hm nm
    · refine ⟨⟨?_, ?_, ?_, ?_, ?_, ?_, ?_, ?_⟩, fun r hr => ?_, fun p hp => ?_, fun s hs => ?_, fun s hs => ?_⟩
      · rw [n1, p17]; rfl
      · rw [n2, p18]; rfl
      · rw [n3, p19]; rfl
      · rw [n4, p20]; rfl
      · rw [n5, p21]; rfl
      · rw [cp 92 0 (by decide) (by decide) (by decide)]; exact p3
      · rw [cp 92 1 (by decide) (by decide) (by decide)]; exact p4
      · rw [cp 92 2 (by decide) (by decide) (by decide)]; exact p5
      · have z : (r : Int) < 0 := hr
        omega
      · have z : (p : Int) < 0 := hp
        omega
      · have z : (s : Int) < 0 := hs
        omega
      · have z : (s : Int) < 0 := hs
        omega
    · intro n hn w hw nm
      refine (lp w hw).ml hw (fun a j ha hj => ?_) (fun a j ha hj => ?_) hn nm
      · have e : kk a = 3 := by unfold kk; rw [if_pos (Or.inr ha)]
        rw [cp a j (by omega) (by omega) (by rw [e]; exact hj), e]
      · have e : kk a = 64 := by unfold kk; rw [if_neg (by omega), if_neg (by omega), if_neg (by omega), if_neg (by omega)]
        rw [cp a j (by omega) (by omega) (by rw [e]; exact hj), e]
    · refine ⟨⟨?_, ?_, ?_, ?_, ?_, ?_, ?_⟩, fun p hp => ?_, fun r hr => ?_, fun j hj => ?_⟩
      · rw [b9]; rfl
      · rw [b3]; exact p3
      · rw [b4]; exact p4
      · rw [b5]; rfl
      · rw [b6]; rfl
      · rw [b7]; rfl
      · rw [b8]; rfl
      · obtain ⟨u1, u2, u3⟩ := b2 p hp
        rw [u1, u2, u3]
        exact ⟨rfl, rfl, rfl⟩
      · have z : (r : Int) < 0 := hr
        omega
      · rw [(b10 j hj).1, (b10 j hj).2]
        exact ⟨rfl, rfl⟩
    · refine ⟨by decide, by decide, by decide, by decide, by decide, by decide, by decide, fun r _ => ?_, fun r hr => ?_, fun p hp => ?_, fun s hs => ?_, fun s hs => ?_⟩
      · show (0 : Int) ≤ 0 ∧ (0 : Int) ≤ 600
        decide
      · have z : (r : Int) < 0 := hr
        omega
      · have z : (p : Int) < 0 := hp
        omega
      · have z : (s : Int) < 0 := hs
        omega
      · have z : (s : Int) < 0 := hs
        omega
    · refine ⟨by decide, by decide, by decide, by decide, by decide, by decide, by decide, fun j _ => Or.inl rfl, fun j _ => ?_, fun j _ => ⟨r0, r0⟩, ⟨r0, r0⟩, Or.inl rfl⟩
      show (0 : Int) ≤ 0 ∧ (0 : Int) ≤ 600
      decide
    · intro j hj
      have : j = 0 ∨ j = 1 ∨ j = 2 ∨ j = 3 ∨ j = 4 ∨ j = 9 := by omega
      rcases this with e | e | e | e | e | e <;> subst e <;> rfl
    · intro j hj
      rcases hj with e | e | e <;> subst e <;> rfl
  have rx : RX XC y0 8 (fun k => XC (8 + k)) (fun k => XC (54 + k)) := by
    refine ⟨⟨⟨?_, by decide, by decide⟩, fun j hj => ⟨?_, ?_, ?_⟩⟩, ⟨?_, ?_⟩, ⟨⟨?_, by decide, by decide⟩, ⟨?_, by decide, by decide⟩, fun k hk => ?_⟩, ⟨⟨?_, by decide, by decide⟩, fun k hk => ?_⟩, ⟨⟨?_, Or.inl rfl⟩, rfl, fun z => absurd z (by decide)⟩, ⟨XC_4, h90⟩, rfl, fun r _ => ?_⟩
    · rw [h88 1 (by decide)]; rfl
    · show (-128 : Int) ≤ 0
      decide
    · show (0 : Int) ≤ 127
      decide
    · rw [h89]; rfl
    · rw [h88 4 (by decide)]; rfl
    · rw [h885]; rfl
    · rw [b11]; rfl
    · rw [b12]; rfl
    · have z : (k : Int) < 0 := hk
      omega
    · rw [b13]; rfl
    · have z : (k : Int) < 0 := hk
      omega
    · rw [b14]; rfl
    · show ((0 : Int) ≤ 0 ∧ (0 : Int) ≤ 600) ∧ ((0 : Int) ≤ 0 ∧ (0 : Int) ≤ 600)
      decide
  have c1 : FrX 8 (clM y0 139) XC := fun a h _ _ _ _ => funext fun j => by
    unfold clM
    rw [if_neg (by omega)]
    exact lo a j h
  have c2 : FQX (clM y0 139) y0 := fun a j _ h _ => by
    unfold clM
    rw [if_neg (by omega)]
  exact ⟨8, _, _, _, ba.cg c1 c2, rx.cg (Or.inl rfl) c1 c2⟩
theorem loop_ok {L : Nat} {xs : Nat → Int32} (hL : L ≤ 3072) : ∀ (m pos : Nat) (M : MM), AL M → pos ≤ L + 6 → L + 6 < m + pos → ∃ M1, lp (f_lawStep L xs) m ((pos : Int), M) = some (1, M1)
  | 0, pos, M, _, h1, h2 => absurd h2 (by omega)
  | m + 1, pos, M, al, h1, h2 => by
    have w6 : w32 ((L : Int) - 6) = (L : Int) - 6 := w32_i (by omega) (by omega)
    by_cases q : (L : Int) - 6 < (pos : Int)
    · refine ⟨M, lp_e m ?_⟩
      unfold f_lawStep
      rw [w6, if_pos (show (L : Int) - 6 < ((pos : Int), M).1 from q)]
    · have wk : ∀ k : Nat, k ≤ 6 → w32 ((pos : Int) + (k : Int)) = ((pos + k : Nat) : Int) := fun k hk => by rw [w32_i (by omega) (by omega)]; omega
      have z : ∀ k : Nat, k ≤ 5 → 0 ≤ w32 ((pos : Int) + (k : Int)) ∧ w32 ((pos : Int) + (k : Int)) < (L : Int) := fun k hk => by
        rw [wk k (by omega)]
        clear w6 wk
        omega
      obtain ⟨M', e, al'⟩ := ls_step (L := L) (xs := xs) (x1 := ((pos : Int), M)) al (by rw [w6]; exact q) ⟨by show 0 ≤ (pos : Int); clear w6 wk z; omega, by show (pos : Int) < (L : Int); clear w6 wk z; omega⟩ (z 1 (by decide)) (z 2 (by decide)) (z 3 (by decide)) (z 4 (by decide)) (z 5 (by decide))
      have e : f_lawStep L xs ((pos : Int), M) = some (Sum.inl (w32 ((pos : Int) + ((6 : Nat) : Int)), M')) := e
      rw [wk 6 (by decide)] at e
      rw [lp_s m e]
      exact loop_ok hL m (pos + 6) M' al' (by clear w6 wk z; omega) (by clear w6 wk z; omega)
theorem pure_ok : PureOK := fun L xs hL => by
  obtain ⟨y0, e, al⟩ := init_ok
  obtain ⟨M1, e1⟩ := loop_ok (xs := xs) hL FU 0 (clM y0 139) al (by omega) (by unfold FU; omega)
  exact ⟨y0, M1, e, e1⟩
end PURE

section FORM
variable {M N : MM} {n t g : Nat} {W K V A B Ko Vo Ao Bo : List Int}
theorem m_counted {c : Nat} (h : N 88 48 = (c : Int)) (hc : c < 64) : f_X12_isCounted N = some (1, upM N 88 48 ((c + 1 : Nat) : Int)) := by
  unfold f_X12_isCounted
  rw [h, if_neg (by omega), wi7 (by omega), bM_eq]
theorem m_full {c : Nat} (h : N 88 48 = (c : Int)) (hc : ¬ c < 64) (h6 : c ≤ 64) : f_X12_isCounted N = (f_X12_wrong N 2).bind fun x2 => gd (x2.1 = 0 ∨ x2.1 = 1) <| some (x2.1, x2.2) := by
  unfold f_X12_isCounted
  rw [h, if_pos (by omega)]
theorem m_full' {c : Nat} (h : N 88 48 = (c : Int)) (hc : ¬ c < 64) (h6 : c ≤ 64) : ∃ N', f_X12_wrong N 2 = some (0, N') ∧ f_X12_isCounted N = some (0, N') := by
  obtain ⟨N', r1, _⟩ := m_wrong N 2
  exact ⟨N', r1, by rw [m_full h hc h6, r1, Option.bind_some, gd_t (Or.inl rfl)]⟩
theorem NO.mk' {N1 N' : MM} (k : RT' M N n t) (f' : FN1 N1 N) {v : Int} (hv : v ≠ 0) {o1 o2 : Option (Int × MM)} (e1 : o1 = some (v, M)) (e2 : f_X12_wrong N1 v = some (0, N')) (e3 : o2 = some (0, N')) : NO M N o1 o2 :=
  NO.mk k f' hv e1 (by rw [e2, Option.bind_some, gd_t (Or.inl rfl)]; exact e3)
theorem len_72 (hb : nb W ≤ 8) (hz : nz W ≤ 64) : W.length ≤ 72 := by have := nb_nz W; omega
/-- a bracket is opened -/
theorem q_part40 (hg : g = 8 ∨ g = 31) (k : RT' M N n t) (x : FX M N g W K V A B Ko Vo Ao Bo) (due : M 5 5 = 1) (e : M 3 4 = 40) : NO M N (f_X1_readPart M (g + 12)) (f_X12_leafRead N) ∨ GO M N g n t Ko Vo Ao Bo (f_X1_readPart M (g + 12)) (f_X12_leafRead N) := by
  obtain ⟨c1, c2, ⟨c3, c4⟩, ⟨d1, d2, d3⟩, ⟨e1, e2⟩, ⟨i1, i2, i3⟩, j, ⟨k1, k2, k3⟩, l⟩ := x
  have hj : (plc Ko.length K).length = bn W := by
    rcases j with j | j
    · exact absurd j.1 (by omega)
    · exact j.2.1
  have u1 : f_X1_readPart M (g + 12) = (f_X1_openBracket M).bind fun x3 => some (x3.1, x3.2) := by
    unfold f_X1_readPart
    rw [bI_eq, if_pos e]
  have u2 : f_X12_leafRead N = if (N 88 47) = 8 then ((f_X12_wrong N 2).bind fun x32 => gd (x32.1 = 0 ∨ x32.1 = 1) <| some (x32.1, x32.2)) else bM (upM N 88 47 (w32 ((N 88 47) + 1))) fun M34 => (f_X12_waitsFor M34 0).bind fun x35 => bM (upM x35 88 50 1) fun M36 => (f_X12_token M36).bind fun x37 => some (1, x37) := by
    unfold f_X12_leafRead
    rw [m_isSign k (by decide), Option.bind_some, if_b1, if_pos e]
  by_cases q : nb W < 8
  · right
    have wl : W.length < 72 := by have := nb_nz W; omega
    have q' : (nb W : Int) < 8 := by omega
    have z : 0 ≤ ((nb W + 1 : Nat) : Int) ∧ ((nb W + 1 : Nat) : Int) < 9 := by omega
    have cc : CFS (upM (upM (upM M 5 4 ((nb W + 1 : Nat) : Int)) 7 (nb W + 1) 0) 5 6 1) g W (K ++ Ko) (V ++ Vo) := c1.cg (by rw [up_ni (by decide), up_na (by decide), up_ni (by decide)]) (fun j => by rw [up_na (by decide), up_na (by decide), up_na (by decide)]) (by rw [up_na (by omega), up_na (by omega), up_na (by omega)]) (fun j => by rw [up_na (by omega), up_na (by omega), up_na (by omega)]) (fun j => by rw [up_na (by omega), up_na (by omega), up_na (by omega)])
    obtain ⟨M1, r1, r2, r3⟩ := c_await (x := 40) cc hg wl
    have nn : NFS (upM N 88 47 ((nb W + 1 : Nat) : Int)) W (plc Ko.length K) (Ko.length + K.length) ((K ++ Ko).map mk) (A ++ Ao) (B ++ Bo) := c2.cg (fun a j h => upM_ne a j (by omega))
    obtain ⟨N1, s1, s2, s3⟩ := m_waits (x := 40) nn (by omega)
    have s1' : f_X12_waitsFor (upM N 88 47 ((nb W + 1 : Nat) : Int)) 0 = some N1 := s1
    have b1' : nb (40 :: W) = nb W + 1 := by show (if (40 : Int) = 40 then 1 else 0) + nb W = _; rw [if_pos rfl]; omega
    have b2' : nz (40 :: W) = nz W := by show (if (40 : Int) = 40 then 0 else 1) + nz W = _; rw [if_pos rfl]; omega
    have b3' : bn (40 :: W) = bn W := by show (if (40 : Int) = 40 ∨ (40 : Int) = 312 then 0 else 1) + bn W = _; rw [if_pos (Or.inl rfl)]; omega
    have f1 : FF1 g M1 M := fun a i y1 y2 y3 y4 y5 y6 => by rw [r3 a i y2 (by omega), upM_ne a i (by omega), upM_ne a i (by omega), upM_ne a i (by omega)]
    have f2 : FN1 (upM N1 88 50 1) N := fun a i y1 y2 y3 y4 => by rw [upM_ne a i (by omega), s3 a i y3 (by omega), upM_ne a i (by omega)]
    refine GO.mk (W := 40 :: W) (K := K) (V := V) (A := A) (B := B) hg k f1 f2 ?_ (by
      rw [u1]
      unfold f_X1_openBracket
      rw [d1, if_pos q', wi7 (by omega), bM_eq, upM_eq, gd_t z, Int.toNat_natCast, bM_eq, bM_eq, r1, Option.bind_some, Option.bind_some]) (by
      rw [u2, d2, if_neg (by omega), wi7 (by omega), bM_eq, s1', Option.bind_some, bM_eq])
    have h7 : ∀ i, M1 7 i = upM M 7 (nb W + 1) 0 7 i := fun i => by
      rw [r3 7 i (by decide) (by omega), up_na (by decide)]
      by_cases w : i = nb W + 1
      · rw [w, upM_eq, upM_eq]
      · rw [up_ni w, up_ni w, up_na (by decide)]
    refine ⟨r2, s2.cg (fun a j h => upM_ne a j (by omega)), ⟨⟨Or.inl rfl, c3⟩, Or.inl rfl, c4⟩, ⟨?_, ?_, by omega⟩, ⟨?_, fun _ => ?_, ?_⟩, ⟨?_, ?_, ?_⟩, Or.inr ⟨?_, by rw [b3']; exact hj, fun _ => by show rk 40 ≤ 3; rw [rk_40]; decide⟩, ⟨?_, ?_, by rw [b2']; exact k3⟩, l⟩
    · rw [r3 5 4 (by decide) (by decide), up_ni (by decide), up_na (by decide), upM_eq, b1']
    · rw [up_ni (by decide), s3 88 47 (by decide) (by decide), upM_eq, b1']
    · rw [b1', h7, upM_eq]; rfl
    · rw [h7, up_ni (by omega)]; exact e1
    · exact e2.cg (fun i hi => by rw [h7, up_ni (by omega)])
    · rw [up_ni (by decide), s3 88 49 (by decide) (by decide), up_ni (by decide), r3 5 5 (by decide) (by decide), up_ni (by decide), up_na (by decide), up_ni (by decide)]; exact i1
    · rw [upM_eq, r3 5 6 (by decide) (by decide), upM_eq]
    · rw [r3 5 6 (by decide) (by decide), upM_eq]; exact Or.inr rfl
    · rw [r3 5 5 (by decide) (by decide), up_ni (by decide), up_na (by decide), up_ni (by decide)]; exact due
    · rw [b2', r3 (g + 12) 7 (by omega) (by omega), up_na (by omega), up_na (by omega), up_na (by omega)]; exact k1
    · rw [b2', up_ni (by decide), s3 88 48 (by decide) (by decide), up_ni (by decide)]; exact k2
  · left
    exact NO.mk k FN1.rf (by decide : (2 : Int) ≠ 0) (by
      rw [u1]
      unfold f_X1_openBracket
      rw [d1, if_neg (by omega), Option.bind_some]) (by rw [u2, d2, if_pos (by omega)])
/-- not -/
theorem q_partNot (hg : g = 8 ∨ g = 31) (k : RT' M N n t) (x : FX M N g W K V A B Ko Vo Ao Bo) (due : M 5 5 = 1) (e : M 3 4 = 312) (fit : M 5 6 = 1) : NO M N (f_X1_readPart M (g + 12)) (f_X12_leafRead N) ∨ GO M N g n t Ko Vo Ao Bo (f_X1_readPart M (g + 12)) (f_X12_leafRead N) := by
  obtain ⟨c1, c2, ⟨c3, c4⟩, ⟨d1, d2, d3⟩, ⟨e1, e2⟩, ⟨i1, i2, i3⟩, j, ⟨k1, k2, k3⟩, l⟩ := x
  have hj : (plc Ko.length K).length = bn W ∧ tp W ≤ 3 := by
    rcases j with j | j
    · exact absurd j.1 (by omega)
    · exact ⟨j.2.1, j.2.2 fit⟩
  have u1 : f_X1_readPart M (g + 12) = if M (g + 12) 7 < 64 then bM (upM M (g + 12) 7 (w32 ((M (g + 12) 7) + 1))) fun M18 => (f_X1_await M18 312).bind fun x22 => some (0, x22) else some (2, M) := by
    unfold f_X1_readPart
    rw [bI_eq, e, if_neg (by decide), if_pos rfl, fit, if_neg (by decide), Option.bind_some, if_neg (by decide), Option.bind_some, if_neg (by decide), bS_l]
    by_cases q : M (g + 12) 7 < 64
    · rw [if_pos q, if_pos q, if_pos rfl, bS_l, bM_eq, bM_eq, if_neg (by decide)]
    · rw [if_neg q, if_neg q]
  have u2 : f_X12_leafRead N = (f_X12_isCounted N).bind fun x6 => if x6.1 = 0 then some (0, x6.2) else (f_X12_waitsFor x6.2 2).bind fun x8 => (f_X12_token x8).bind fun x9 => some (1, x9) := by
    unfold f_X12_leafRead
    rw [m_isSign k (by decide), Option.bind_some, if_b1, if_neg (by omega), m_isKey k (Or.inl ⟨rfl, rfl⟩), Option.bind_some, if_b1, if_pos e, i2, fit, if_neg (by decide)]
    by_cases q : nz W + (Ko.length + K.length) < 64
    · rw [m_counted k2 q, Option.bind_some, Option.bind_some, if_neg (show ¬ ((1 : Int) = 0) by decide), if_neg (show ¬ ((1 : Int) = 0) by decide)]
      show bS ((f_X12_waitsFor (upM N 88 48 _) 2).bind _) _ _ = (f_X12_waitsFor (upM N 88 48 _) 2).bind _
      have wl : W.length < 96 := by have := nb_nz W; omega
      have nn : NFS (upM N 88 48 ((nz W + (Ko.length + K.length) + 1 : Nat) : Int)) W (plc Ko.length K) (Ko.length + K.length) ((K ++ Ko).map mk) (A ++ Ao) (B ++ Bo) := c2.cg (fun a j h => upM_ne a j (by omega))
      obtain ⟨N1, s1, s2, s3⟩ := m_waits (x := 312) nn wl
      have s1' : f_X12_waitsFor (upM N 88 48 ((nz W + (Ko.length + K.length) + 1 : Nat) : Int)) 2 = some N1 := s1
      rw [s1', Option.bind_some, Option.bind_some]
      have f2 : FN1 N1 N := fun a i y1 y2 y3 y4 => by rw [s3 a i y3 (by omega), upM_ne a i (by omega)]
      obtain ⟨M2, N2, t1, t2, _⟩ := (k.fr hg (FF1.rf (g := g)) f2).next
      rw [t2, Option.bind_some, Option.bind_some, bS_r]
    · obtain ⟨N', r1, r2⟩ := m_full' k2 q k3
      rw [r2, Option.bind_some, Option.bind_some, if_pos rfl, if_pos rfl, bS_r]
  by_cases q : nz W + (Ko.length + K.length) < 64
  · right
    have wl : W.length < 72 := by have := nb_nz W; omega
    have q' : ((nz W + (Ko.length + K.length) : Nat) : Int) < 64 := by omega
    have cc : CFS (upM M (g + 12) 7 ((nz W + (Ko.length + K.length) + 1 : Nat) : Int)) g W (K ++ Ko) (V ++ Vo) := c1.cg (up_na (by omega)) (fun j => up_na (by omega)) (up_ni (by decide)) (fun j => up_na (by omega)) (fun j => up_na (by omega))
    obtain ⟨M1, r1, r2, r3⟩ := c_await (x := 312) cc hg wl
    have nn : NFS (upM N 88 48 ((nz W + (Ko.length + K.length) + 1 : Nat) : Int)) W (plc Ko.length K) (Ko.length + K.length) ((K ++ Ko).map mk) (A ++ Ao) (B ++ Bo) := c2.cg (fun a j h => upM_ne a j (by omega))
    obtain ⟨N1, s1, s2, s3⟩ := m_waits (x := 312) nn (by omega)
    have s1' : f_X12_waitsFor (upM N 88 48 ((nz W + (Ko.length + K.length) + 1 : Nat) : Int)) 2 = some N1 := s1
    have b1' : nb (312 :: W) = nb W := by show (if (312 : Int) = 40 then 1 else 0) + nb W = _; rw [if_neg (by decide)]; omega
    have b2' : nz (312 :: W) = nz W + 1 := by show (if (312 : Int) = 40 then 0 else 1) + nz W = _; rw [if_neg (by decide)]; omega
    have b3' : bn (312 :: W) = bn W := by show (if (312 : Int) = 40 ∨ (312 : Int) = 312 then 0 else 1) + bn W = _; rw [if_pos (Or.inr rfl)]; omega
    have b4' : CT (312 :: W) = CT W := by show (if (312 : Int) = 40 then 0 else if rk 312 = 4 then 1 else CT W) = _; rw [if_neg (by decide), if_neg (by decide)]
    have f1 : FF1 g M1 M := fun a i y1 y2 y3 y4 y5 y6 => by rw [r3 a i y2 (by omega), upM_ne a i (by omega)]
    have f2 : FN1 N1 N := fun a i y1 y2 y3 y4 => by rw [s3 a i y3 (by omega), upM_ne a i (by omega)]
    refine GO.mk (W := 312 :: W) (K := K) (V := V) (A := A) (B := B) hg k f1 f2 ?_ (by
      rw [u1, k1, if_pos q', wi7 (by omega), bM_eq, r1, Option.bind_some]) (by
      rw [u2, m_counted k2 q, Option.bind_some, if_neg (show ¬ ((1 : Int) = 0) by decide), s1', Option.bind_some])
    have h7 : ∀ i, M1 7 i = M 7 i := fun i => by rw [r3 7 i (by decide) (by omega), up_na (by omega)]
    have m5 : ∀ i, i ≠ 3 → M1 5 i = M 5 i := fun i h => by rw [r3 5 i (by decide) (by omega), up_na (by omega)]
    refine ⟨r2, s2, ⟨⟨by unfold JK; decide, c3⟩, Or.inr hj.2, c4⟩, ⟨?_, ?_, by omega⟩, ⟨?_, fun h => absurd h (by decide), ?_⟩, ⟨?_, ?_, ?_⟩, Or.inr ⟨?_, by rw [b3']; exact hj.1, fun _ => by show rk 312 ≤ 3; decide⟩, ⟨?_, ?_, by rw [b2']; omega⟩, l⟩
    · rw [m5 4 (by decide), b1']; exact d1
    · rw [s3 88 47 (by decide) (by decide), up_ni (by decide), b1']; exact d2
    · rw [b1', h7, b4']; exact e1
    · exact e2.cg (fun i hi => h7 i)
    · rw [s3 88 49 (by decide) (by decide), up_ni (by decide), m5 5 (by decide)]; exact i1
    · rw [s3 88 50 (by decide) (by decide), up_ni (by decide), m5 6 (by decide)]; exact i2
    · rw [m5 6 (by decide)]; exact i3
    · rw [m5 5 (by decide)]; exact due
    · rw [b2', r3 (g + 12) 7 (by omega) (by omega), upM_eq]; congr 1; omega
    · rw [b2', s3 88 48 (by decide) (by decide), upM_eq]; congr 1; omega
  · left
    obtain ⟨N', r1, r2⟩ := m_full' k2 q k3
    exact NO.mk' k FN1.rf (by decide : (2 : Int) ≠ 0) (by rw [u1, k1, if_neg (by omega)]) r1 (by rw [u2, r2, Option.bind_some, if_pos rfl])
end FORM

theorem CT_ge {p : Int} (hp : 5 ≤ p) : ∀ W : List Int, CT (wr p W) = CT W
  | [] => rfl
  | x :: L => by
    show CT (if rk x < p then x :: L else wr p L) = CT (x :: L)
    by_cases q : rk x < p
    · rw [if_pos q]
    · rw [if_neg q, CT_ge hp L]
      show CT L = if x = 40 then 0 else if rk x = 4 then 1 else CT L
      rw [if_neg (x_40 (by omega) q), if_neg (by omega)]
theorem wr_br {W : List Int} (j : AJ W) : (0 < nb W → ∃ L, wr 1 W = 40 :: L) ∧ (nb W = 0 → wr 1 W = []) := by
  have h1 := AJ_wr 1 W j
  have h2 := tp_wr 1 (by decide) W
  have h3 := nb_wr (p := 1) (by decide) W
  match e : wr 1 W with
  | [] =>
    rw [e] at h3
    have h3' : 0 = nb W := h3
    exact ⟨fun z => absurd z (by omega), fun _ => rfl⟩
  | x :: L =>
    rw [e] at h1 h2 h3
    have h2' : rk x < 1 := h2
    have h3' : (if x = 40 then 1 else 0) + nb L = nb W := h3
    have x4 : x = 40 := by
      rcases rk_pos h1.1 with h | h
      · exact h.1
      · omega
    rw [if_pos x4] at h3'
    exact ⟨fun _ => ⟨L, by rw [x4]⟩, fun z => absurd z (by omega)⟩
section FORM
variable {M N : MM} {n t g : Nat} {W K V A B Ko Vo Ao Bo : List Int}
/-- the class releases amid a formula -/
theorem rel_c (hg : g = 8 ∨ g = 31) {p : Int} (hp : 1 ≤ p) (c : CFS M g W (K ++ Ko) (V ++ Vo)) (j : AJ W) (hb : nb W ≤ 8) (hk : nz W + (Ko.length + K.length) ≤ 64) : ∃ M', f_X1_release M (g + 12) p = some M' ∧ CFS M' g (wr p W) (kr p W K ++ Ko) (vr p W V ++ Vo) ∧ FRL g M' M := by
  have r := c_release hg hp c j (by have := nb_nz W; omega) (by rw [List.length_append]; omega)
  rw [kr_ap, vr_ap] at r
  exact r
/-- the second system binds amid a formula -/
theorem rel_m {p : Int} (hp : 1 ≤ p) (c : NFS N W (plc Ko.length K) (Ko.length + K.length) ((K ++ Ko).map mk) (A ++ Ao) (B ++ Bo)) (j : AJ W) (hb : nb W ≤ 8) (hk : nz W + (Ko.length + K.length) ≤ 64) (hP : (plc Ko.length K).length = bn W + 1) (ok : OKK Ko.length K V A B) : ∃ N' A' B', f_X12_bind N p = some N' ∧ NFS N' (wr p W) (plc Ko.length (kr p W K)) (Ko.length + (kr p W K).length) ((kr p W K ++ Ko).map mk) (A' ++ Ao) (B' ++ Bo) ∧ FBN N' N ∧ OKK Ko.length (kr p W K) (vr p W V) A' B' ∧ (plc Ko.length (kr p W K)).length = bn (wr p W) + 1 ∧ nz (wr p W) + (Ko.length + (kr p W K).length) = nz W + (Ko.length + K.length) := by
  obtain ⟨N', r1, r2, r3⟩ := m_bind hp c j (by have := nb_nz W; omega) hk hP
  obtain ⟨o1, o2⟩ := OKK_rel hp W K V A B (plc Ko.length K) j ok rfl hP
  have ln : nr p W (Ko.length + K.length) = Ko.length + (kr p W K).length := by
    have h := kr_len p W (K ++ Ko)
    rw [kr_ap, List.length_append, List.length_append, Nat.add_comm K.length] at h
    omega
  have hz := nz_wr hp W (Ko.length + K.length)
  have hl := pr_len hp W (Ko.length + K.length) (plc Ko.length K) hP
  rw [o2] at hl
  rw [gr_mk p W _ j, kr_ap, ar_ap, br_ap, o2, ln] at r2
  rw [ln] at hz
  exact ⟨N', _, _, r1, r2, r3, o1, hl, hz⟩
/-- a bracket is closed -/
theorem q_close (hg : g = 8 ∨ g = 31) (k : RT' M N n t) (x : FX M N g W K V A B Ko Vo Ao Bo) (due : M 5 5 = 0) (e : M 3 4 = 41) (hb : 0 < nb W) : GO M N g n t Ko Vo Ao Bo (f_X1_readJoint M (g + 12)) (f_X12_signs N) := by
  obtain ⟨c1, c2, ⟨c3, c4⟩, ⟨d1, d2, d3⟩, ⟨e1, e2⟩, ⟨i1, i2, i3⟩, j, ⟨k1, k2, k3⟩, l⟩ := x
  have hj : (plc Ko.length K).length = bn W + 1 := by
    rcases j with j | j
    · exact j.2
    · exact absurd j.1 (by omega)
  obtain ⟨M1, r1, r2, r3⟩ := rel_c hg (p := 1) (by decide) c1 c3 d3 k3
  obtain ⟨N1, A', B', s1, s2, s3, s4, s5, s6⟩ := rel_m (p := 1) (by decide) c2 c3 d3 k3 hj l
  obtain ⟨L, eL⟩ := (wr_br c3).1 hb
  have h1 := AJ_wr 1 W c3
  have h2 := SO_wr 1 W c4
  have h3 := nb_wr (p := 1) (by decide) W
  have h4 := CP_wr (p := 1) (M 7) W e2
  rw [eL] at r2 s2 s5 s6 h1 h2 h3 h4
  have b1' : nb (40 :: L) = nb L + 1 := by show (if (40 : Int) = 40 then 1 else 0) + nb L = _; rw [if_pos rfl]; omega
  have b2' : nz (40 :: L) = nz L := by show (if (40 : Int) = 40 then 0 else 1) + nz L = _; rw [if_pos rfl]; omega
  have b3' : bn (40 :: L) = bn L := by show (if (40 : Int) = 40 ∨ (40 : Int) = 312 then 0 else 1) + bn L = _; rw [if_pos (Or.inl rfl)]; omega
  obtain ⟨a1, ⟨a2, a2'⟩, a3, a4, a5, a6⟩ := r2
  obtain ⟨⟨n1, n2, n2'⟩, nr⟩ := s2
  have lL : L.length < 1000 := by have := nb_nz L; omega
  have m54 : M1 5 4 = ((nb L + 1 : Nat) : Int) := by rw [r3 5 4 (by decide) (by omega) (by omega) (by omega), d1, ← h3, b1']
  have n47 : N1 88 47 = ((nb L + 1 : Nat) : Int) := by rw [s3 88 47 (by decide) (by decide) (by decide), d2, ← h3, b1']
  have w1 : w32 (M1 5 3 - 1) = (L.length : Int) := by rw [a1, List.length_cons]; exact wp1 lL
  have w2 : w32 (N1 88 45 - 1) = (L.length : Int) := by rw [n1, List.length_cons]; exact wp1 lL
  have f1 : FF1 g (upM (upM M1 5 3 (L.length : Int)) 5 4 (nb L : Int)) M := (r3.f.up (by omega)).up (by omega)
  have f2 : FN1 (upM (upM N1 88 45 (L.length : Int)) 88 47 (nb L : Int)) N := (s3.f.up (by omega)).up (by omega)
  have m7 : ∀ i, (upM (upM M1 5 3 (L.length : Int)) 5 4 (nb L : Int)) 7 i = M 7 i := fun i => by rw [up_na (by decide), up_na (by decide), r3 7 i (by omega) (by omega) (by omega) (by omega)]
  have m5 : ∀ i, i ≠ 3 → i ≠ 4 → (upM (upM M1 5 3 (L.length : Int)) 5 4 (nb L : Int)) 5 i = M 5 i := fun i y z => by rw [up_ni z, up_ni y, r3 5 i (by omega) (by omega) (by omega) (by omega)]
  have n8 : ∀ i, 48 ≤ i → i ≤ 50 → (upM (upM N1 88 45 (L.length : Int)) 88 47 (nb L : Int)) 88 i = N 88 i := fun i y z => by rw [up_ni (by omega), up_ni (by omega), s3 88 i (by omega) (by omega) (by decide)]
  refine GO.mk (W := L) (K := kr 1 W K) (V := vr 1 W V) (A := A') (B := B') hg k f1 f2 ⟨⟨?_, ?_, ?_, ?_, ?_, a6⟩, ?_, ⟨h1.2, h2.2⟩, ⟨upM_eq, upM_eq, by omega⟩, ⟨?_, ?_⟩, ⟨?_, ?_, ?_⟩, Or.inl ⟨?_, by rw [s5, b3']⟩, ⟨?_, ?_, ?_⟩, s4⟩ ?_ ?_
  · rw [up_ni (by decide), upM_eq]
  · exact a2'.cg (fun i _ => by rw [up_na (by decide), up_na (by decide)])
  · rw [up_na (by omega), up_na (by omega)]; exact a3
  · exact a4.cg (fun i _ => by rw [up_na (by omega), up_na (by omega)])
  · exact a5.cg (fun i _ => by rw [up_na (by omega), up_na (by omega)])
  · obtain ⟨⟨p1, p2⟩, p3, ⟨p4, p5⟩, ⟨p6, p7⟩, p8, p9⟩ := nr
    exact ⟨⟨by rw [up_ni (by decide), upM_eq], n2'.cg (fun i _ => by rw [up_na (by decide), up_na (by decide)])⟩, ⟨by rw [up_ni (by decide), up_ni (by decide)]; exact p1, p2.cg (fun i _ => by rw [up_na (by decide), up_na (by decide)])⟩, by rw [up_ni (by decide), up_ni (by decide)]; exact p3, ⟨p4.cg (fun i _ => by rw [up_na (by decide), up_na (by decide)]), p5⟩, ⟨p6.cg (fun i _ => by rw [up_na (by decide), up_na (by decide)]), p7⟩, p8.cg (fun i _ => by rw [up_na (by decide), up_na (by decide)]), p9⟩
  · rw [m7]; exact h4.1 rfl
  · exact h4.2.cg (fun i _ => m7 i)
  · rw [n8 49 (by decide) (by decide), m5 5 (by decide) (by decide)]; exact i1
  · rw [n8 50 (by decide) (by decide), m5 6 (by decide) (by decide)]; exact i2
  · rw [m5 6 (by decide) (by decide)]; exact i3
  · rw [m5 5 (by decide) (by decide)]; exact due
  · rw [up_na (by omega), up_na (by omega), r3 (g + 12) 7 (by omega) (by omega) (by omega) (by omega)]
    rw [k1]; congr 1; omega
  · rw [n8 48 (by decide) (by decide), k2]; congr 1; omega
  · omega
  · unfold f_X1_readJoint
    rw [bI_eq, if_pos e, d1, if_pos (by omega), r1, Option.bind_some, w1, bM_eq, up_ni (by decide), m54, wp1 (by omega), bM_eq, bS_r]
  · obtain ⟨M2, N2, t1, t2, _⟩ := (k.fr hg f1 f2).next
    unfold f_X12_signs
    rw [m_isSign k (by decide), Option.bind_some, if_b1, if_pos e, d2, if_pos (by omega), s1, Option.bind_some, w2, bM_eq, up_ni (by decide), n47, wp1 (by omega), bM_eq, t2, Option.bind_some, Option.bind_some, bS_r]
end FORM

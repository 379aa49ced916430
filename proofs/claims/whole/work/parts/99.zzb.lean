section TOKE
variable {M : MM}
theorem tk_run {a : Nat} : ∀ d : Nat, (∀ i, a ≤ i → i < a + d → lch i ≠ 32) → tkS M (a + d) = tkS M a
  | 0, _ => rfl
  | d + 1, h => by
    have e : tkS M (a + d + 1) = tkS M (a + d) := if_neg (fun z => h (a + d) (by omega) (by omega) z.1)
    show tkS M (a + d + 1) = tkS M a
    rw [e]
    exact tk_run d (fun i h1 h2 => h i h1 (by omega))
theorem tk_word {a j d : Nat} {m : MM} {v : Int} (h : tkS M a = (j, a, m)) (hj : j < 20) (hr : ∀ i, i < a + d → a ≤ i → lch i ≠ 32) (hs : lch (a + d) = 32) (hv : pkf a (a + d) 6 = v) : tkS M (a + d + 1) = (j + 1, a + d + 1, upM m 4 j v) := by
  have e : tkS M (a + d) = (j, a, m) := (tk_run d (fun i h1 h2 => hr i h2 h1)).trans h
  have e2 : tkS M (a + d + 1) = ((tkS M (a + d)).1 + 1, a + d + 1, upM (tkS M (a + d)).2.2 4 (tkS M (a + d)).1 (pkf (tkS M (a + d)).2.1 (a + d) 6)) := if_pos ⟨hs, by rw [e]; exact hj⟩
  rw [e2, e, ← hv]
theorem tk_end (M : MM) : (tkS M 97).2.2 = g_X9_init_3 M := by
  have t0 : tkS M 0 = (0, 0, M) := rfl
  have t1 := tk_word (a := 0) (j := 0) (d := 4) (v := 620213248) t0 (by decide) (by decide) (by decide) (by decide +kernel)
  have t2 := tk_word (a := 5) (j := 1) (d := 6) (v := 542723566) t1 (by decide) (by decide) (by decide) (by decide +kernel)
  have t3 := tk_word (a := 12) (j := 2) (d := 3) (v := 660013056) t2 (by decide) (by decide) (by decide) (by decide +kernel)
  have t4 := tk_word (a := 16) (j := 3) (d := 3) (v := 525991936) t3 (by decide) (by decide) (by decide) (by decide +kernel)
  have t5 := tk_word (a := 20) (j := 4) (d := 4) (v := 384272384) t4 (by decide) (by decide) (by decide) (by decide +kernel)
  have t6 := tk_word (a := 25) (j := 5) (d := 5) (v := 556043424) t5 (by decide) (by decide) (by decide) (by decide +kernel)
  have t7 := tk_word (a := 31) (j := 6) (d := 3) (v := 404455424) t6 (by decide) (by decide) (by decide) (by decide +kernel)
  have t8 := tk_word (a := 35) (j := 7) (d := 4) (v := 419009536) t7 (by decide) (by decide) (by decide) (by decide +kernel)
  have t9 := tk_word (a := 40) (j := 8) (d := 4) (v := 693712896) t8 (by decide) (by decide) (by decide) (by decide +kernel)
  have t10 := tk_word (a := 45) (j := 9) (d := 5) (v := 120049248) t9 (by decide) (by decide) (by decide) (by decide +kernel)
  have t11 := tk_word (a := 51) (j := 10) (d := 2) (v := 522190848) t10 (by decide) (by decide) (by decide) (by decide +kernel)
  have t12 := tk_word (a := 54) (j := 11) (d := 3) (v := 48365568) t11 (by decide) (by decide) (by decide) (by decide +kernel)
  have t13 := tk_word (a := 58) (j := 12) (d := 3) (v := 486146048) t12 (by decide) (by decide) (by decide) (by decide +kernel)
  have t14 := tk_word (a := 62) (j := 13) (d := 4) (v := 773403648) t13 (by decide) (by decide) (by decide) (by decide +kernel)
  have t15 := tk_word (a := 67) (j := 14) (d := 5) (v := 525997632) t14 (by decide) (by decide) (by decide) (by decide +kernel)
  have t16 := tk_word (a := 73) (j := 15) (d := 4) (v := 206983168) t15 (by decide) (by decide) (by decide) (by decide +kernel)
  have t17 := tk_word (a := 78) (j := 16) (d := 4) (v := 781819904) t16 (by decide) (by decide) (by decide) (by decide +kernel)
  have t18 := tk_word (a := 83) (j := 17) (d := 3) (v := 643432448) t17 (by decide) (by decide) (by decide) (by decide +kernel)
  have t19 := tk_word (a := 87) (j := 18) (d := 4) (v := 407940096) t18 (by decide) (by decide) (by decide) (by decide +kernel)
  have t20 := tk_word (a := 92) (j := 19) (d := 4) (v := 284870656) t19 (by decide) (by decide) (by decide) (by decide +kernel)
  have e : tkS M 97 = (20, 97, g_X9_init_3 M) := t20
  rw [e]
end TOKE
theorem wJ_oi : Cond.methodLink RX9 3 objectInit ∈ TS := inT1 44 (by decide +kernel) (by decide +kernel)
set_option maxRecDepth 8000 in
theorem tok_ok : TokOK := fun E M hZ => by
  refine MetC.seg (o := some ()) (x := ()) (t := (fun K _ => K none (TT 5, true, RT [(3, 1, 1), (3, 0, 4), (0, 0, 1)], (tkS M 97).2.2))) (L := [some (rV 3), some (rV 1), none, none, none]) (by decide) rfl (Nat.le_of_ble_eq_true rfl) ?_ rfl ⟨rfl, by rw [tk_end]⟩
  refine Seg.step (pc' := 1) (I_aload_n (i := 0) dTk_0 rfl rfl) ?_
  refine Seg.step (pc' := 4) (I_oinit wJ_oi wo_i wo_c (by decide) (Nat.le_of_ble_eq_true rfl) dTk_1) ?_
  refine Seg.step (pc' := 5) (I_aload_n (i := 0) dTk_4 rfl rfl) ?_
  refine Seg.step (pc' := 7) (I_bipush dTk_5 (by decide) ⟨by decide, by decide⟩) ?_
  refine Seg.step (pc' := 9) (I_newaT (q := 50) (N := 20) (a := 4) (atype := .int) rfl rfl hZ (fun j => rfl) (by decide) rfl (by decide) wa_50 (by decide) (by decide) (by decide) dTk_7) ?_
  refine Seg.step (pc' := 12) (I_putR cls9 (by decide) wf_9_11 rfl rfl (Or.inr ⟨rfl, rfl, rfl⟩) dTk_9) ?_
  refine Seg.step (pc' := 13) (I_aload_n (i := 0) dTk_12 rfl rfl) ?_
  refine Seg.step (pc' := 14) (I_aload_n (i := 1) dTk_13 rfl rfl) ?_
  refine Seg.step (pc' := 17) (I_putR cls9 (by decide) wf_9_15 rfl rfl (Or.inr ⟨rfl, rfl, rfl⟩) dTk_14) ?_
  refine Seg.step (pc' := 18) (I_iconst dTk_17 ⟨by decide, by decide⟩) ?_
  refine Seg.step (pc' := 19) (I_istore_n (i := 2) dTk_18 rfl (by decide) rfl) ?_
  refine Seg.step (pc' := 20) (I_iconst dTk_19 ⟨by decide, by decide⟩) ?_
  refine Seg.step (pc' := 21) (I_istore_n (i := 3) dTk_20 rfl (by decide) rfl) ?_
  refine Seg.step (pc' := 22) (I_iconst dTk_21 ⟨by decide, by decide⟩) ?_
  refine Seg.step (pc' := 24) (I_istore (i := 4) dTk_22 (by decide) rfl) ?_
  exact tk_loop 97 0 rfl

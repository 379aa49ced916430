theorem fr_X12_feed {M m : MM} {p1 : Int} {p2 : Int} {p3 : Int} {p4 : Int} {p5 : Int} (h : Ag PM m M) : Pr PM M (fun (y : Int × MM) => y.2) (f_X12_feed m p1 p2 p3 p4 p5) := by
  unfold f_X12_feed
  repeat' first
    | with_reducible refine Pr_some ?_
    | with_reducible refine Pr_gd ?_
    | with_reducible refine Pr_ite ?_ ?_
    | with_reducible refine Pr_bM ?_ (fun m hm => ?_)
    | with_reducible refine Pr_bI (fun x => ?_)
    | with_reducible refine Pr_gH (fun b hb => ?_)
    | with_reducible refine Pr_bS (fun x => x) ?_ (fun x hx => ?_)
    | with_reducible refine Pr_bS (fun x => x.2) ?_ (fun x hx => ?_)
    | with_reducible refine Pr_bS (fun x => x.2.2) ?_ (fun x hx => ?_)
    | with_reducible refine Pr_bS (fun x => x.2.2.2) ?_ (fun x hx => ?_)
    | with_reducible refine Pr_bS (fun x => x.2.2.2.2) ?_ (fun x hx => ?_)
    | with_reducible refine Pr_bS (fun _ => M) ?_ (fun x hx => ?_)
    | with_reducible refine Pr_lp (fun x => x) (fun x hx => ?_) _ _ ?_
    | with_reducible refine Pr_lp (fun x => x.2) (fun x hx => ?_) _ _ ?_
    | with_reducible refine Pr_lp (fun x => x.2.2) (fun x hx => ?_) _ _ ?_
    | with_reducible refine Pr_lp (fun x => x.2.2.2) (fun x hx => ?_) _ _ ?_
    | with_reducible refine Pr_lp (fun x => x.2.2.2.2) (fun x hx => ?_) _ _ ?_
    | with_reducible refine Pr_lp (fun _ => M) (fun x hx => ?_) _ _ ?_
    | with_reducible refine Pr_bind (fun x => x) ?_ (fun x hx => ?_)
    | with_reducible refine Pr_bind (fun x => x.2) ?_ (fun x hx => ?_)
    | with_reducible refine Pr_bind (fun x => x.2.2) ?_ (fun x hx => ?_)
    | with_reducible refine Pr_bind (fun x => x.2.2.2) ?_ (fun x hx => ?_)
    | with_reducible refine Pr_bind (fun x => x.2.2.2.2) ?_ (fun x hx => ?_)
    | with_reducible refine Pr_bindN (fun x => ?_)
    | with_reducible refine Ag.up ?_ (by unfold PM; omega)
    | with_reducible refine Ag.cp ?_ (by unfold PM; omega)
    | assumption
    | exact Ag.rf
theorem fr_X12_wrong {M m : MM} {p1 : Int} (h : Ag PM m M) : Pr PM M (fun (y : Int × MM) => y.2) (f_X12_wrong m p1) := by
  unfold f_X12_wrong
  repeat' first
    | with_reducible refine Pr_some ?_
    | with_reducible refine Pr_gd ?_
    | with_reducible refine Pr_ite ?_ ?_
    | with_reducible refine Pr_bM ?_ (fun m hm => ?_)
    | with_reducible refine Pr_bI (fun x => ?_)
    | with_reducible refine Pr_gH (fun b hb => ?_)
    | with_reducible refine Pr_bS (fun x => x) ?_ (fun x hx => ?_)
    | with_reducible refine Pr_bS (fun x => x.2) ?_ (fun x hx => ?_)
    | with_reducible refine Pr_bS (fun x => x.2.2) ?_ (fun x hx => ?_)
    | with_reducible refine Pr_bS (fun x => x.2.2.2) ?_ (fun x hx => ?_)
    | with_reducible refine Pr_bS (fun x => x.2.2.2.2) ?_ (fun x hx => ?_)
    | with_reducible refine Pr_bS (fun _ => M) ?_ (fun x hx => ?_)
    | with_reducible refine Pr_lp (fun x => x) (fun x hx => ?_) _ _ ?_
    | with_reducible refine Pr_lp (fun x => x.2) (fun x hx => ?_) _ _ ?_
    | with_reducible refine Pr_lp (fun x => x.2.2) (fun x hx => ?_) _ _ ?_
    | with_reducible refine Pr_lp (fun x => x.2.2.2) (fun x hx => ?_) _ _ ?_
    | with_reducible refine Pr_lp (fun x => x.2.2.2.2) (fun x hx => ?_) _ _ ?_
    | with_reducible refine Pr_lp (fun _ => M) (fun x hx => ?_) _ _ ?_
    | with_reducible refine Pr_bind (fun x => x) ?_ (fun x hx => ?_)
    | with_reducible refine Pr_bind (fun x => x.2) ?_ (fun x hx => ?_)
    | with_reducible refine Pr_bind (fun x => x.2.2) ?_ (fun x hx => ?_)
    | with_reducible refine Pr_bind (fun x => x.2.2.2) ?_ (fun x hx => ?_)
    | with_reducible refine Pr_bind (fun x => x.2.2.2.2) ?_ (fun x hx => ?_)
    | with_reducible refine Pr_bindN (fun x => ?_)
    | with_reducible refine Ag.up ?_ (by unfold PM; omega)
    | with_reducible refine Ag.cp ?_ (by unfold PM; omega)
    | assumption
    | exact Ag.rf
theorem fr_X12_signToken {M m : MM}  (h : Ag PM m M) : Pr PM M (fun (y : MM) => y) (f_X12_signToken m) := by
  unfold f_X12_signToken
  repeat' first
    | with_reducible refine Pr_some ?_
    | with_reducible refine Pr_gd ?_
    | with_reducible refine Pr_ite ?_ ?_
    | with_reducible refine Pr_bM ?_ (fun m hm => ?_)
    | with_reducible refine Pr_bI (fun x => ?_)
    | with_reducible refine Pr_gH (fun b hb => ?_)
    | with_reducible refine Pr_bS (fun x => x) ?_ (fun x hx => ?_)
    | with_reducible refine Pr_bS (fun x => x.2) ?_ (fun x hx => ?_)
    | with_reducible refine Pr_bS (fun x => x.2.2) ?_ (fun x hx => ?_)
    | with_reducible refine Pr_bS (fun x => x.2.2.2) ?_ (fun x hx => ?_)
    | with_reducible refine Pr_bS (fun x => x.2.2.2.2) ?_ (fun x hx => ?_)
    | with_reducible refine Pr_bS (fun _ => M) ?_ (fun x hx => ?_)
    | with_reducible refine Pr_lp (fun x => x) (fun x hx => ?_) _ _ ?_
    | with_reducible refine Pr_lp (fun x => x.2) (fun x hx => ?_) _ _ ?_
    | with_reducible refine Pr_lp (fun x => x.2.2) (fun x hx => ?_) _ _ ?_
    | with_reducible refine Pr_lp (fun x => x.2.2.2) (fun x hx => ?_) _ _ ?_
    | with_reducible refine Pr_lp (fun x => x.2.2.2.2) (fun x hx => ?_) _ _ ?_
    | with_reducible refine Pr_lp (fun _ => M) (fun x hx => ?_) _ _ ?_
    | with_reducible refine Pr_bind (fun x => x) ?_ (fun x hx => ?_)
    | with_reducible refine Pr_bind (fun x => x.2) ?_ (fun x hx => ?_)
    | with_reducible refine Pr_bind (fun x => x.2.2) ?_ (fun x hx => ?_)
    | with_reducible refine Pr_bind (fun x => x.2.2.2) ?_ (fun x hx => ?_)
    | with_reducible refine Pr_bind (fun x => x.2.2.2.2) ?_ (fun x hx => ?_)
    | with_reducible refine Pr_bindN (fun x => ?_)
    | with_reducible refine Ag.up ?_ (by unfold PM; omega)
    | with_reducible refine Ag.cp ?_ (by unfold PM; omega)
    | assumption
    | exact Ag.rf
theorem fr_X12_token {M m : MM}  (h : Ag PM m M) : Pr PM M (fun (y : MM) => y) (f_X12_token m) := by
  unfold f_X12_token
  repeat' first
    | with_reducible refine Pr_some ?_
    | with_reducible refine fr_X12_signToken ?_
    | with_reducible refine Pr_gd ?_
    | with_reducible refine Pr_ite ?_ ?_
    | with_reducible refine Pr_bM ?_ (fun m hm => ?_)
    | with_reducible refine Pr_bI (fun x => ?_)
    | with_reducible refine Pr_gH (fun b hb => ?_)
    | with_reducible refine Pr_bS (fun x => x) ?_ (fun x hx => ?_)
    | with_reducible refine Pr_bS (fun x => x.2) ?_ (fun x hx => ?_)
    | with_reducible refine Pr_bS (fun x => x.2.2) ?_ (fun x hx => ?_)
    | with_reducible refine Pr_bS (fun x => x.2.2.2) ?_ (fun x hx => ?_)
    | with_reducible refine Pr_bS (fun x => x.2.2.2.2) ?_ (fun x hx => ?_)
    | with_reducible refine Pr_bS (fun _ => M) ?_ (fun x hx => ?_)
    | with_reducible refine Pr_lp (fun x => x) (fun x hx => ?_) _ _ ?_
    | with_reducible refine Pr_lp (fun x => x.2) (fun x hx => ?_) _ _ ?_
    | with_reducible refine Pr_lp (fun x => x.2.2) (fun x hx => ?_) _ _ ?_
    | with_reducible refine Pr_lp (fun x => x.2.2.2) (fun x hx => ?_) _ _ ?_
    | with_reducible refine Pr_lp (fun x => x.2.2.2.2) (fun x hx => ?_) _ _ ?_
    | with_reducible refine Pr_lp (fun _ => M) (fun x hx => ?_) _ _ ?_
    | with_reducible refine Pr_bind (fun x => x) ?_ (fun x hx => ?_)
    | with_reducible refine Pr_bind (fun x => x.2) ?_ (fun x hx => ?_)
    | with_reducible refine Pr_bind (fun x => x.2.2) ?_ (fun x hx => ?_)
    | with_reducible refine Pr_bind (fun x => x.2.2.2) ?_ (fun x hx => ?_)
    | with_reducible refine Pr_bind (fun x => x.2.2.2.2) ?_ (fun x hx => ?_)
    | with_reducible refine Pr_bindN (fun x => ?_)
    | with_reducible refine Ag.up ?_ (by unfold PM; omega)
    | with_reducible refine Ag.cp ?_ (by unfold PM; omega)
    | assumption
    | exact Ag.rf
theorem fr_X12_number {M m : MM} {p1 : Int} {p2 : Int} (h : Ag PM m M) : Pr PM M (fun (y : Int × MM) => y.2) (f_X12_number m p1 p2) := by
  unfold f_X12_number
  repeat' first
    | with_reducible refine Pr_some ?_
    | with_reducible refine fr_X12_wrong ?_
    | with_reducible refine fr_X12_token ?_
    | with_reducible refine Pr_gd ?_
    | with_reducible refine Pr_ite ?_ ?_
    | with_reducible refine Pr_bM ?_ (fun m hm => ?_)
    | with_reducible refine Pr_bI (fun x => ?_)
    | with_reducible refine Pr_gH (fun b hb => ?_)
    | with_reducible refine Pr_bS (fun x => x) ?_ (fun x hx => ?_)
    | with_reducible refine Pr_bS (fun x => x.2) ?_ (fun x hx => ?_)
    | with_reducible refine Pr_bS (fun x => x.2.2) ?_ (fun x hx => ?_)
    | with_reducible refine Pr_bS (fun x => x.2.2.2) ?_ (fun x hx => ?_)
    | with_reducible refine Pr_bS (fun x => x.2.2.2.2) ?_ (fun x hx => ?_)
    | with_reducible refine Pr_bS (fun _ => M) ?_ (fun x hx => ?_)
    | with_reducible refine Pr_lp (fun x => x) (fun x hx => ?_) _ _ ?_
    | with_reducible refine Pr_lp (fun x => x.2) (fun x hx => ?_) _ _ ?_
    | with_reducible refine Pr_lp (fun x => x.2.2) (fun x hx => ?_) _ _ ?_
    | with_reducible refine Pr_lp (fun x => x.2.2.2) (fun x hx => ?_) _ _ ?_
    | with_reducible refine Pr_lp (fun x => x.2.2.2.2) (fun x hx => ?_) _ _ ?_
    | with_reducible refine Pr_lp (fun _ => M) (fun x hx => ?_) _ _ ?_
    | with_reducible refine Pr_bind (fun x => x) ?_ (fun x hx => ?_)
    | with_reducible refine Pr_bind (fun x => x.2) ?_ (fun x hx => ?_)
    | with_reducible refine Pr_bind (fun x => x.2.2) ?_ (fun x hx => ?_)
    | with_reducible refine Pr_bind (fun x => x.2.2.2) ?_ (fun x hx => ?_)
    | with_reducible refine Pr_bind (fun x => x.2.2.2.2) ?_ (fun x hx => ?_)
    | with_reducible refine Pr_bindN (fun x => ?_)
    | with_reducible refine Ag.up ?_ (by unfold PM; omega)
    | with_reducible refine Ag.cp ?_ (by unfold PM; omega)
    | assumption
    | exact Ag.rf
theorem fr_X12_plain {M m : MM}  (h : Ag PM m M) : Pr PM M (fun (y : MM) => y) (f_X12_plain m) := by
  unfold f_X12_plain
  repeat' first
    | with_reducible refine Pr_some ?_
    | with_reducible refine Pr_gd ?_
    | with_reducible refine Pr_ite ?_ ?_
    | with_reducible refine Pr_bM ?_ (fun m hm => ?_)
    | with_reducible refine Pr_bI (fun x => ?_)
    | with_reducible refine Pr_gH (fun b hb => ?_)
    | with_reducible refine Pr_bS (fun x => x) ?_ (fun x hx => ?_)
    | with_reducible refine Pr_bS (fun x => x.2) ?_ (fun x hx => ?_)
    | with_reducible refine Pr_bS (fun x => x.2.2) ?_ (fun x hx => ?_)
    | with_reducible refine Pr_bS (fun x => x.2.2.2) ?_ (fun x hx => ?_)
    | with_reducible refine Pr_bS (fun x => x.2.2.2.2) ?_ (fun x hx => ?_)
    | with_reducible refine Pr_bS (fun _ => M) ?_ (fun x hx => ?_)
    | with_reducible refine Pr_lp (fun x => x) (fun x hx => ?_) _ _ ?_
    | with_reducible refine Pr_lp (fun x => x.2) (fun x hx => ?_) _ _ ?_
    | with_reducible refine Pr_lp (fun x => x.2.2) (fun x hx => ?_) _ _ ?_
    | with_reducible refine Pr_lp (fun x => x.2.2.2) (fun x hx => ?_) _ _ ?_
    | with_reducible refine Pr_lp (fun x => x.2.2.2.2) (fun x hx => ?_) _ _ ?_
    | with_reducible refine Pr_lp (fun _ => M) (fun x hx => ?_) _ _ ?_
    | with_reducible refine Pr_bind (fun x => x) ?_ (fun x hx => ?_)
    | with_reducible refine Pr_bind (fun x => x.2) ?_ (fun x hx => ?_)
    | with_reducible refine Pr_bind (fun x => x.2.2) ?_ (fun x hx => ?_)
    | with_reducible refine Pr_bind (fun x => x.2.2.2) ?_ (fun x hx => ?_)
    | with_reducible refine Pr_bind (fun x => x.2.2.2.2) ?_ (fun x hx => ?_)
    | with_reducible refine Pr_bindN (fun x => ?_)
    | with_reducible refine Ag.up ?_ (by unfold PM; omega)
    | with_reducible refine Ag.cp ?_ (by unfold PM; omega)
    | assumption
    | exact Ag.rf
theorem fr_X12_copies {M m : MM} {a1 n1 : Nat} {p2 : Int} (h : Ag PM m M) (ha1 : 88 ≤ a1 ∧ a1 < 139) : Pr PM M (fun (y : MM) => y) (f_X12_copies m a1 n1 p2) := by
  unfold f_X12_copies
  repeat' first
    | with_reducible refine Pr_some ?_
    | with_reducible refine Pr_gd ?_
    | with_reducible refine Pr_ite ?_ ?_
    | with_reducible refine Pr_bM ?_ (fun m hm => ?_)
    | with_reducible refine Pr_bI (fun x => ?_)
    | with_reducible refine Pr_gH (fun b hb => ?_)
    | with_reducible refine Pr_bS (fun x => x) ?_ (fun x hx => ?_)
    | with_reducible refine Pr_bS (fun x => x.2) ?_ (fun x hx => ?_)
    | with_reducible refine Pr_bS (fun x => x.2.2) ?_ (fun x hx => ?_)
    | with_reducible refine Pr_bS (fun x => x.2.2.2) ?_ (fun x hx => ?_)
    | with_reducible refine Pr_bS (fun x => x.2.2.2.2) ?_ (fun x hx => ?_)
    | with_reducible refine Pr_bS (fun _ => M) ?_ (fun x hx => ?_)
    | with_reducible refine Pr_lp (fun x => x) (fun x hx => ?_) _ _ ?_
    | with_reducible refine Pr_lp (fun x => x.2) (fun x hx => ?_) _ _ ?_
    | with_reducible refine Pr_lp (fun x => x.2.2) (fun x hx => ?_) _ _ ?_
    | with_reducible refine Pr_lp (fun x => x.2.2.2) (fun x hx => ?_) _ _ ?_
    | with_reducible refine Pr_lp (fun x => x.2.2.2.2) (fun x hx => ?_) _ _ ?_
    | with_reducible refine Pr_lp (fun _ => M) (fun x hx => ?_) _ _ ?_
    | with_reducible refine Pr_bind (fun x => x) ?_ (fun x hx => ?_)
    | with_reducible refine Pr_bind (fun x => x.2) ?_ (fun x hx => ?_)
    | with_reducible refine Pr_bind (fun x => x.2.2) ?_ (fun x hx => ?_)
    | with_reducible refine Pr_bind (fun x => x.2.2.2) ?_ (fun x hx => ?_)
    | with_reducible refine Pr_bind (fun x => x.2.2.2.2) ?_ (fun x hx => ?_)
    | with_reducible refine Pr_bindN (fun x => ?_)
    | with_reducible refine Ag.up ?_ (by unfold PM; omega)
    | with_reducible refine Ag.cp ?_ (by unfold PM; omega)
    | assumption
    | exact Ag.rf
theorem fr_X12_atFirst {M m : MM} {p1 : Int} (h : Ag PM m M) : Pr PM M (fun (y : MM) => y) (f_X12_atFirst m p1) := by
  unfold f_X12_atFirst
  repeat' first
    | with_reducible refine Pr_some ?_
    | with_reducible refine Pr_gd ?_
    | with_reducible refine Pr_ite ?_ ?_
    | with_reducible refine Pr_bM ?_ (fun m hm => ?_)
    | with_reducible refine Pr_bI (fun x => ?_)
    | with_reducible refine Pr_gH (fun b hb => ?_)
    | with_reducible refine Pr_bS (fun x => x) ?_ (fun x hx => ?_)
    | with_reducible refine Pr_bS (fun x => x.2) ?_ (fun x hx => ?_)
    | with_reducible refine Pr_bS (fun x => x.2.2) ?_ (fun x hx => ?_)
    | with_reducible refine Pr_bS (fun x => x.2.2.2) ?_ (fun x hx => ?_)
    | with_reducible refine Pr_bS (fun x => x.2.2.2.2) ?_ (fun x hx => ?_)
    | with_reducible refine Pr_bS (fun _ => M) ?_ (fun x hx => ?_)
    | with_reducible refine Pr_lp (fun x => x) (fun x hx => ?_) _ _ ?_
    | with_reducible refine Pr_lp (fun x => x.2) (fun x hx => ?_) _ _ ?_
    | with_reducible refine Pr_lp (fun x => x.2.2) (fun x hx => ?_) _ _ ?_
    | with_reducible refine Pr_lp (fun x => x.2.2.2) (fun x hx => ?_) _ _ ?_
    | with_reducible refine Pr_lp (fun x => x.2.2.2.2) (fun x hx => ?_) _ _ ?_
    | with_reducible refine Pr_lp (fun _ => M) (fun x hx => ?_) _ _ ?_
    | with_reducible refine Pr_bind (fun x => x) ?_ (fun x hx => ?_)
    | with_reducible refine Pr_bind (fun x => x.2) ?_ (fun x hx => ?_)
    | with_reducible refine Pr_bind (fun x => x.2.2) ?_ (fun x hx => ?_)
    | with_reducible refine Pr_bind (fun x => x.2.2.2) ?_ (fun x hx => ?_)
    | with_reducible refine Pr_bind (fun x => x.2.2.2.2) ?_ (fun x hx => ?_)
    | with_reducible refine Pr_bindN (fun x => ?_)
    | with_reducible refine Ag.up ?_ (by unfold PM; omega)
    | with_reducible refine Ag.cp ?_ (by unfold PM; omega)
    | assumption
    | exact Ag.rf
theorem fr_X12_plainTried {M m : MM}  (h : Ag PM m M) : Pr PM M (fun (y : MM) => y) (f_X12_plainTried m) := by
  unfold f_X12_plainTried
  repeat' first
    | with_reducible refine Pr_some ?_
    | with_reducible refine Pr_gd ?_
    | with_reducible refine Pr_ite ?_ ?_
    | with_reducible refine Pr_bM ?_ (fun m hm => ?_)
    | with_reducible refine Pr_bI (fun x => ?_)
    | with_reducible refine Pr_gH (fun b hb => ?_)
    | with_reducible refine Pr_bS (fun x => x) ?_ (fun x hx => ?_)
    | with_reducible refine Pr_bS (fun x => x.2) ?_ (fun x hx => ?_)
    | with_reducible refine Pr_bS (fun x => x.2.2) ?_ (fun x hx => ?_)
    | with_reducible refine Pr_bS (fun x => x.2.2.2) ?_ (fun x hx => ?_)
    | with_reducible refine Pr_bS (fun x => x.2.2.2.2) ?_ (fun x hx => ?_)
    | with_reducible refine Pr_bS (fun _ => M) ?_ (fun x hx => ?_)
    | with_reducible refine Pr_lp (fun x => x) (fun x hx => ?_) _ _ ?_
    | with_reducible refine Pr_lp (fun x => x.2) (fun x hx => ?_) _ _ ?_
    | with_reducible refine Pr_lp (fun x => x.2.2) (fun x hx => ?_) _ _ ?_
    | with_reducible refine Pr_lp (fun x => x.2.2.2) (fun x hx => ?_) _ _ ?_
    | with_reducible refine Pr_lp (fun x => x.2.2.2.2) (fun x hx => ?_) _ _ ?_
    | with_reducible refine Pr_lp (fun _ => M) (fun x hx => ?_) _ _ ?_
    | with_reducible refine Pr_bind (fun x => x) ?_ (fun x hx => ?_)
    | with_reducible refine Pr_bind (fun x => x.2) ?_ (fun x hx => ?_)
    | with_reducible refine Pr_bind (fun x => x.2.2) ?_ (fun x hx => ?_)
    | with_reducible refine Pr_bind (fun x => x.2.2.2) ?_ (fun x hx => ?_)
    | with_reducible refine Pr_bind (fun x => x.2.2.2.2) ?_ (fun x hx => ?_)
    | with_reducible refine Pr_bindN (fun x => ?_)
    | with_reducible refine Ag.up ?_ (by unfold PM; omega)
    | with_reducible refine Ag.cp ?_ (by unfold PM; omega)
    | assumption
    | exact Ag.rf
theorem fr_X12_begin {M m : MM}  (h : Ag PM m M) : Pr PM M (fun (y : MM) => y) (f_X12_begin m) := by
  unfold f_X12_begin
  repeat' first
    | with_reducible refine Pr_some ?_
    | with_reducible refine fr_X12_atFirst ?_
    | with_reducible refine fr_X12_plainTried ?_
    | with_reducible refine Pr_gd ?_
    | with_reducible refine Pr_ite ?_ ?_
    | with_reducible refine Pr_bM ?_ (fun m hm => ?_)
    | with_reducible refine Pr_bI (fun x => ?_)
    | with_reducible refine Pr_gH (fun b hb => ?_)
    | with_reducible refine Pr_bS (fun x => x) ?_ (fun x hx => ?_)
    | with_reducible refine Pr_bS (fun x => x.2) ?_ (fun x hx => ?_)
    | with_reducible refine Pr_bS (fun x => x.2.2) ?_ (fun x hx => ?_)
    | with_reducible refine Pr_bS (fun x => x.2.2.2) ?_ (fun x hx => ?_)
    | with_reducible refine Pr_bS (fun x => x.2.2.2.2) ?_ (fun x hx => ?_)
    | with_reducible refine Pr_bS (fun _ => M) ?_ (fun x hx => ?_)
    | with_reducible refine Pr_lp (fun x => x) (fun x hx => ?_) _ _ ?_
    | with_reducible refine Pr_lp (fun x => x.2) (fun x hx => ?_) _ _ ?_
    | with_reducible refine Pr_lp (fun x => x.2.2) (fun x hx => ?_) _ _ ?_
    | with_reducible refine Pr_lp (fun x => x.2.2.2) (fun x hx => ?_) _ _ ?_
    | with_reducible refine Pr_lp (fun x => x.2.2.2.2) (fun x hx => ?_) _ _ ?_
    | with_reducible refine Pr_lp (fun _ => M) (fun x hx => ?_) _ _ ?_
    | with_reducible refine Pr_bind (fun x => x) ?_ (fun x hx => ?_)
    | with_reducible refine Pr_bind (fun x => x.2) ?_ (fun x hx => ?_)
    | with_reducible refine Pr_bind (fun x => x.2.2) ?_ (fun x hx => ?_)
    | with_reducible refine Pr_bind (fun x => x.2.2.2) ?_ (fun x hx => ?_)
    | with_reducible refine Pr_bind (fun x => x.2.2.2.2) ?_ (fun x hx => ?_)
    | with_reducible refine Pr_bindN (fun x => ?_)
    | with_reducible refine Ag.up ?_ (by unfold PM; omega)
    | with_reducible refine Ag.cp ?_ (by unfold PM; omega)
    | assumption
    | exact Ag.rf
theorem fr_X12_keepText {M m : MM}  (h : Ag PM m M) : Pr PM M (fun (y : MM) => y) (f_X12_keepText m) := by
  unfold f_X12_keepText
  repeat' first
    | with_reducible refine Pr_some ?_
    | with_reducible refine fr_X12_copies ?_ (by omega)
    | with_reducible refine fr_X12_begin ?_
    | with_reducible refine Pr_gd ?_
    | with_reducible refine Pr_ite ?_ ?_
    | with_reducible refine Pr_bM ?_ (fun m hm => ?_)
    | with_reducible refine Pr_bI (fun x => ?_)
    | with_reducible refine Pr_gH (fun b hb => ?_)
    | with_reducible refine Pr_bS (fun x => x) ?_ (fun x hx => ?_)
    | with_reducible refine Pr_bS (fun x => x.2) ?_ (fun x hx => ?_)
    | with_reducible refine Pr_bS (fun x => x.2.2) ?_ (fun x hx => ?_)
    | with_reducible refine Pr_bS (fun x => x.2.2.2) ?_ (fun x hx => ?_)
    | with_reducible refine Pr_bS (fun x => x.2.2.2.2) ?_ (fun x hx => ?_)
    | with_reducible refine Pr_bS (fun _ => M) ?_ (fun x hx => ?_)
    | with_reducible refine Pr_lp (fun x => x) (fun x hx => ?_) _ _ ?_
    | with_reducible refine Pr_lp (fun x => x.2) (fun x hx => ?_) _ _ ?_
    | with_reducible refine Pr_lp (fun x => x.2.2) (fun x hx => ?_) _ _ ?_
    | with_reducible refine Pr_lp (fun x => x.2.2.2) (fun x hx => ?_) _ _ ?_
    | with_reducible refine Pr_lp (fun x => x.2.2.2.2) (fun x hx => ?_) _ _ ?_
    | with_reducible refine Pr_lp (fun _ => M) (fun x hx => ?_) _ _ ?_
    | with_reducible refine Pr_bind (fun x => x) ?_ (fun x hx => ?_)
    | with_reducible refine Pr_bind (fun x => x.2) ?_ (fun x hx => ?_)
    | with_reducible refine Pr_bind (fun x => x.2.2) ?_ (fun x hx => ?_)
    | with_reducible refine Pr_bind (fun x => x.2.2.2) ?_ (fun x hx => ?_)
    | with_reducible refine Pr_bind (fun x => x.2.2.2.2) ?_ (fun x hx => ?_)
    | with_reducible refine Pr_bindN (fun x => ?_)
    | with_reducible refine Ag.up ?_ (by unfold PM; omega)
    | with_reducible refine Ag.cp ?_ (by unfold PM; omega)
    | assumption
    | exact Ag.rf
theorem fr_X12_newName {M m : MM} {a1 n1 : Nat} {p2 : Int} {p3 : Int} (h : Ag PM m M) (ha1 : 88 ≤ a1 ∧ a1 < 139) : Pr PM M (fun (y : Int × MM) => y.2) (f_X12_newName m a1 n1 p2 p3) := by
  unfold f_X12_newName
  repeat' first
    | with_reducible refine Pr_some ?_
    | with_reducible refine fr_X12_wrong ?_
    | with_reducible refine fr_X12_token ?_
    | with_reducible refine Pr_gd ?_
    | with_reducible refine Pr_ite ?_ ?_
    | with_reducible refine Pr_bM ?_ (fun m hm => ?_)
    | with_reducible refine Pr_bI (fun x => ?_)
    | with_reducible refine Pr_gH (fun b hb => ?_)
    | with_reducible refine Pr_bS (fun x => x) ?_ (fun x hx => ?_)
    | with_reducible refine Pr_bS (fun x => x.2) ?_ (fun x hx => ?_)
    | with_reducible refine Pr_bS (fun x => x.2.2) ?_ (fun x hx => ?_)
    | with_reducible refine Pr_bS (fun x => x.2.2.2) ?_ (fun x hx => ?_)
    | with_reducible refine Pr_bS (fun x => x.2.2.2.2) ?_ (fun x hx => ?_)
    | with_reducible refine Pr_bS (fun _ => M) ?_ (fun x hx => ?_)
    | with_reducible refine Pr_lp (fun x => x) (fun x hx => ?_) _ _ ?_
    | with_reducible refine Pr_lp (fun x => x.2) (fun x hx => ?_) _ _ ?_
    | with_reducible refine Pr_lp (fun x => x.2.2) (fun x hx => ?_) _ _ ?_
    | with_reducible refine Pr_lp (fun x => x.2.2.2) (fun x hx => ?_) _ _ ?_
    | with_reducible refine Pr_lp (fun x => x.2.2.2.2) (fun x hx => ?_) _ _ ?_
    | with_reducible refine Pr_lp (fun _ => M) (fun x hx => ?_) _ _ ?_
    | with_reducible refine Pr_bind (fun x => x) ?_ (fun x hx => ?_)
    | with_reducible refine Pr_bind (fun x => x.2) ?_ (fun x hx => ?_)
    | with_reducible refine Pr_bind (fun x => x.2.2) ?_ (fun x hx => ?_)
    | with_reducible refine Pr_bind (fun x => x.2.2.2) ?_ (fun x hx => ?_)
    | with_reducible refine Pr_bind (fun x => x.2.2.2.2) ?_ (fun x hx => ?_)
    | with_reducible refine Pr_bindN (fun x => ?_)
    | with_reducible refine Ag.up ?_ (by unfold PM; omega)
    | with_reducible refine Ag.cp ?_ (by unfold PM; omega)
    | assumption
    | exact Ag.rf
theorem fr_X12_roomThere {M m : MM}  (h : Ag PM m M) : Pr PM M (fun (y : Int × MM) => y.2) (f_X12_roomThere m) := by
  unfold f_X12_roomThere
  repeat' first
    | with_reducible refine Pr_some ?_
    | with_reducible refine fr_X12_wrong ?_
    | with_reducible refine fr_X12_token ?_
    | with_reducible refine Pr_gd ?_
    | with_reducible refine Pr_ite ?_ ?_
    | with_reducible refine Pr_bM ?_ (fun m hm => ?_)
    | with_reducible refine Pr_bI (fun x => ?_)
    | with_reducible refine Pr_gH (fun b hb => ?_)
    | with_reducible refine Pr_bS (fun x => x) ?_ (fun x hx => ?_)
    | with_reducible refine Pr_bS (fun x => x.2) ?_ (fun x hx => ?_)
    | with_reducible refine Pr_bS (fun x => x.2.2) ?_ (fun x hx => ?_)
    | with_reducible refine Pr_bS (fun x => x.2.2.2) ?_ (fun x hx => ?_)
    | with_reducible refine Pr_bS (fun x => x.2.2.2.2) ?_ (fun x hx => ?_)
    | with_reducible refine Pr_bS (fun _ => M) ?_ (fun x hx => ?_)
    | with_reducible refine Pr_lp (fun x => x) (fun x hx => ?_) _ _ ?_
    | with_reducible refine Pr_lp (fun x => x.2) (fun x hx => ?_) _ _ ?_
    | with_reducible refine Pr_lp (fun x => x.2.2) (fun x hx => ?_) _ _ ?_
    | with_reducible refine Pr_lp (fun x => x.2.2.2) (fun x hx => ?_) _ _ ?_
    | with_reducible refine Pr_lp (fun x => x.2.2.2.2) (fun x hx => ?_) _ _ ?_
    | with_reducible refine Pr_lp (fun _ => M) (fun x hx => ?_) _ _ ?_
    | with_reducible refine Pr_bind (fun x => x) ?_ (fun x hx => ?_)
    | with_reducible refine Pr_bind (fun x => x.2) ?_ (fun x hx => ?_)
    | with_reducible refine Pr_bind (fun x => x.2.2) ?_ (fun x hx => ?_)
    | with_reducible refine Pr_bind (fun x => x.2.2.2) ?_ (fun x hx => ?_)
    | with_reducible refine Pr_bind (fun x => x.2.2.2.2) ?_ (fun x hx => ?_)
    | with_reducible refine Pr_bindN (fun x => ?_)
    | with_reducible refine Ag.up ?_ (by unfold PM; omega)
    | with_reducible refine Ag.cp ?_ (by unfold PM; omega)
    | assumption
    | exact Ag.rf
theorem fr_X12_roomLine {M m : MM}  (h : Ag PM m M) : Pr PM M (fun (y : Int × MM) => y.2) (f_X12_roomLine m) := by
  unfold f_X12_roomLine
  repeat' first
    | with_reducible refine Pr_some ?_
    | with_reducible refine fr_X12_wrong ?_
    | with_reducible refine fr_X12_token ?_
    | with_reducible refine fr_X12_newName ?_ (by omega)
    | with_reducible refine fr_X12_number ?_
    | with_reducible refine Pr_gd ?_
    | with_reducible refine Pr_ite ?_ ?_
    | with_reducible refine Pr_bM ?_ (fun m hm => ?_)
    | with_reducible refine Pr_bI (fun x => ?_)
    | with_reducible refine Pr_gH (fun b hb => ?_)
    | with_reducible refine Pr_bS (fun x => x) ?_ (fun x hx => ?_)
    | with_reducible refine Pr_bS (fun x => x.2) ?_ (fun x hx => ?_)
    | with_reducible refine Pr_bS (fun x => x.2.2) ?_ (fun x hx => ?_)
    | with_reducible refine Pr_bS (fun x => x.2.2.2) ?_ (fun x hx => ?_)
    | with_reducible refine Pr_bS (fun x => x.2.2.2.2) ?_ (fun x hx => ?_)
    | with_reducible refine Pr_bS (fun _ => M) ?_ (fun x hx => ?_)
    | with_reducible refine Pr_lp (fun x => x) (fun x hx => ?_) _ _ ?_
    | with_reducible refine Pr_lp (fun x => x.2) (fun x hx => ?_) _ _ ?_
    | with_reducible refine Pr_lp (fun x => x.2.2) (fun x hx => ?_) _ _ ?_
    | with_reducible refine Pr_lp (fun x => x.2.2.2) (fun x hx => ?_) _ _ ?_
    | with_reducible refine Pr_lp (fun x => x.2.2.2.2) (fun x hx => ?_) _ _ ?_
    | with_reducible refine Pr_lp (fun _ => M) (fun x hx => ?_) _ _ ?_
    | with_reducible refine Pr_bind (fun x => x) ?_ (fun x hx => ?_)
    | with_reducible refine Pr_bind (fun x => x.2) ?_ (fun x hx => ?_)
    | with_reducible refine Pr_bind (fun x => x.2.2) ?_ (fun x hx => ?_)
    | with_reducible refine Pr_bind (fun x => x.2.2.2) ?_ (fun x hx => ?_)
    | with_reducible refine Pr_bind (fun x => x.2.2.2.2) ?_ (fun x hx => ?_)
    | with_reducible refine Pr_bindN (fun x => ?_)
    | with_reducible refine Ag.up ?_ (by unfold PM; omega)
    | with_reducible refine Ag.cp ?_ (by unfold PM; omega)
    | assumption
    | exact Ag.rf
theorem fr_X12_personLine {M m : MM}  (h : Ag PM m M) : Pr PM M (fun (y : Int × MM) => y.2) (f_X12_personLine m) := by
  unfold f_X12_personLine
  repeat' first
    | with_reducible refine Pr_some ?_
    | with_reducible refine fr_X12_wrong ?_
    | with_reducible refine fr_X12_token ?_
    | with_reducible refine fr_X12_newName ?_ (by omega)
    | with_reducible refine fr_X12_roomThere ?_
    | with_reducible refine fr_X12_number ?_
    | with_reducible refine Pr_gd ?_
    | with_reducible refine Pr_ite ?_ ?_
    | with_reducible refine Pr_bM ?_ (fun m hm => ?_)
    | with_reducible refine Pr_bI (fun x => ?_)
    | with_reducible refine Pr_gH (fun b hb => ?_)
    | with_reducible refine Pr_bS (fun x => x) ?_ (fun x hx => ?_)
    | with_reducible refine Pr_bS (fun x => x.2) ?_ (fun x hx => ?_)
    | with_reducible refine Pr_bS (fun x => x.2.2) ?_ (fun x hx => ?_)
    | with_reducible refine Pr_bS (fun x => x.2.2.2) ?_ (fun x hx => ?_)
    | with_reducible refine Pr_bS (fun x => x.2.2.2.2) ?_ (fun x hx => ?_)
    | with_reducible refine Pr_bS (fun _ => M) ?_ (fun x hx => ?_)
    | with_reducible refine Pr_lp (fun x => x) (fun x hx => ?_) _ _ ?_
    | with_reducible refine Pr_lp (fun x => x.2) (fun x hx => ?_) _ _ ?_
    | with_reducible refine Pr_lp (fun x => x.2.2) (fun x hx => ?_) _ _ ?_
    | with_reducible refine Pr_lp (fun x => x.2.2.2) (fun x hx => ?_) _ _ ?_
    | with_reducible refine Pr_lp (fun x => x.2.2.2.2) (fun x hx => ?_) _ _ ?_
    | with_reducible refine Pr_lp (fun _ => M) (fun x hx => ?_) _ _ ?_
    | with_reducible refine Pr_bind (fun x => x) ?_ (fun x hx => ?_)
    | with_reducible refine Pr_bind (fun x => x.2) ?_ (fun x hx => ?_)
    | with_reducible refine Pr_bind (fun x => x.2.2) ?_ (fun x hx => ?_)
    | with_reducible refine Pr_bind (fun x => x.2.2.2) ?_ (fun x hx => ?_)
    | with_reducible refine Pr_bind (fun x => x.2.2.2.2) ?_ (fun x hx => ?_)
    | with_reducible refine Pr_bindN (fun x => ?_)
    | with_reducible refine Ag.up ?_ (by unfold PM; omega)
    | with_reducible refine Ag.cp ?_ (by unfold PM; omega)
    | assumption
    | exact Ag.rf
theorem fr_X12_sunLine {M m : MM}  (h : Ag PM m M) : Pr PM M (fun (y : Int × MM) => y.2) (f_X12_sunLine m) := by
  unfold f_X12_sunLine
  repeat' first
    | with_reducible refine Pr_some ?_
    | with_reducible refine fr_X12_wrong ?_
    | with_reducible refine fr_X12_token ?_
    | with_reducible refine fr_X12_roomThere ?_
    | with_reducible refine fr_X12_number ?_
    | with_reducible refine Pr_gd ?_
    | with_reducible refine Pr_ite ?_ ?_
    | with_reducible refine Pr_bM ?_ (fun m hm => ?_)
    | with_reducible refine Pr_bI (fun x => ?_)
    | with_reducible refine Pr_gH (fun b hb => ?_)
    | with_reducible refine Pr_bS (fun x => x) ?_ (fun x hx => ?_)
    | with_reducible refine Pr_bS (fun x => x.2) ?_ (fun x hx => ?_)
    | with_reducible refine Pr_bS (fun x => x.2.2) ?_ (fun x hx => ?_)
    | with_reducible refine Pr_bS (fun x => x.2.2.2) ?_ (fun x hx => ?_)
    | with_reducible refine Pr_bS (fun x => x.2.2.2.2) ?_ (fun x hx => ?_)
    | with_reducible refine Pr_bS (fun _ => M) ?_ (fun x hx => ?_)
    | with_reducible refine Pr_lp (fun x => x) (fun x hx => ?_) _ _ ?_
    | with_reducible refine Pr_lp (fun x => x.2) (fun x hx => ?_) _ _ ?_
    | with_reducible refine Pr_lp (fun x => x.2.2) (fun x hx => ?_) _ _ ?_
    | with_reducible refine Pr_lp (fun x => x.2.2.2) (fun x hx => ?_) _ _ ?_
    | with_reducible refine Pr_lp (fun x => x.2.2.2.2) (fun x hx => ?_) _ _ ?_
    | with_reducible refine Pr_lp (fun _ => M) (fun x hx => ?_) _ _ ?_
    | with_reducible refine Pr_bind (fun x => x) ?_ (fun x hx => ?_)
    | with_reducible refine Pr_bind (fun x => x.2) ?_ (fun x hx => ?_)
    | with_reducible refine Pr_bind (fun x => x.2.2) ?_ (fun x hx => ?_)
    | with_reducible refine Pr_bind (fun x => x.2.2.2) ?_ (fun x hx => ?_)
    | with_reducible refine Pr_bind (fun x => x.2.2.2.2) ?_ (fun x hx => ?_)
    | with_reducible refine Pr_bindN (fun x => ?_)
    | with_reducible refine Ag.up ?_ (by unfold PM; omega)
    | with_reducible refine Ag.cp ?_ (by unfold PM; omega)
    | assumption
    | exact Ag.rf
theorem fr_X12_outLine {M m : MM}  (h : Ag PM m M) : Pr PM M (fun (y : Int × MM) => y.2) (f_X12_outLine m) := by
  unfold f_X12_outLine
  repeat' first
    | with_reducible refine Pr_some ?_
    | with_reducible refine fr_X12_wrong ?_
    | with_reducible refine fr_X12_token ?_
    | with_reducible refine fr_X12_number ?_
    | with_reducible refine Pr_gd ?_
    | with_reducible refine Pr_ite ?_ ?_
    | with_reducible refine Pr_bM ?_ (fun m hm => ?_)
    | with_reducible refine Pr_bI (fun x => ?_)
    | with_reducible refine Pr_gH (fun b hb => ?_)
    | with_reducible refine Pr_bS (fun x => x) ?_ (fun x hx => ?_)
    | with_reducible refine Pr_bS (fun x => x.2) ?_ (fun x hx => ?_)
    | with_reducible refine Pr_bS (fun x => x.2.2) ?_ (fun x hx => ?_)
    | with_reducible refine Pr_bS (fun x => x.2.2.2) ?_ (fun x hx => ?_)
    | with_reducible refine Pr_bS (fun x => x.2.2.2.2) ?_ (fun x hx => ?_)
    | with_reducible refine Pr_bS (fun _ => M) ?_ (fun x hx => ?_)
    | with_reducible refine Pr_lp (fun x => x) (fun x hx => ?_) _ _ ?_
    | with_reducible refine Pr_lp (fun x => x.2) (fun x hx => ?_) _ _ ?_
    | with_reducible refine Pr_lp (fun x => x.2.2) (fun x hx => ?_) _ _ ?_
    | with_reducible refine Pr_lp (fun x => x.2.2.2) (fun x hx => ?_) _ _ ?_
    | with_reducible refine Pr_lp (fun x => x.2.2.2.2) (fun x hx => ?_) _ _ ?_
    | with_reducible refine Pr_lp (fun _ => M) (fun x hx => ?_) _ _ ?_
    | with_reducible refine Pr_bind (fun x => x) ?_ (fun x hx => ?_)
    | with_reducible refine Pr_bind (fun x => x.2) ?_ (fun x hx => ?_)
    | with_reducible refine Pr_bind (fun x => x.2.2) ?_ (fun x hx => ?_)
    | with_reducible refine Pr_bind (fun x => x.2.2.2) ?_ (fun x hx => ?_)
    | with_reducible refine Pr_bind (fun x => x.2.2.2.2) ?_ (fun x hx => ?_)
    | with_reducible refine Pr_bindN (fun x => ?_)
    | with_reducible refine Ag.up ?_ (by unfold PM; omega)
    | with_reducible refine Ag.cp ?_ (by unfold PM; omega)
    | assumption
    | exact Ag.rf
theorem fr_X12_knobLine {M m : MM}  (h : Ag PM m M) : Pr PM M (fun (y : Int × MM) => y.2) (f_X12_knobLine m) := by
  unfold f_X12_knobLine
  repeat' first
    | with_reducible refine Pr_some ?_
    | with_reducible refine fr_X12_wrong ?_
    | with_reducible refine fr_X12_token ?_
    | with_reducible refine fr_X12_number ?_
    | with_reducible refine fr_X12_roomThere ?_
    | with_reducible refine Pr_gd ?_
    | with_reducible refine Pr_ite ?_ ?_
    | with_reducible refine Pr_bM ?_ (fun m hm => ?_)
    | with_reducible refine Pr_bI (fun x => ?_)
    | with_reducible refine Pr_gH (fun b hb => ?_)
    | with_reducible refine Pr_bS (fun x => x) ?_ (fun x hx => ?_)
    | with_reducible refine Pr_bS (fun x => x.2) ?_ (fun x hx => ?_)
    | with_reducible refine Pr_bS (fun x => x.2.2) ?_ (fun x hx => ?_)
    | with_reducible refine Pr_bS (fun x => x.2.2.2) ?_ (fun x hx => ?_)
    | with_reducible refine Pr_bS (fun x => x.2.2.2.2) ?_ (fun x hx => ?_)
    | with_reducible refine Pr_bS (fun _ => M) ?_ (fun x hx => ?_)
    | with_reducible refine Pr_lp (fun x => x) (fun x hx => ?_) _ _ ?_
    | with_reducible refine Pr_lp (fun x => x.2) (fun x hx => ?_) _ _ ?_
    | with_reducible refine Pr_lp (fun x => x.2.2) (fun x hx => ?_) _ _ ?_
    | with_reducible refine Pr_lp (fun x => x.2.2.2) (fun x hx => ?_) _ _ ?_
    | with_reducible refine Pr_lp (fun x => x.2.2.2.2) (fun x hx => ?_) _ _ ?_
    | with_reducible refine Pr_lp (fun _ => M) (fun x hx => ?_) _ _ ?_
    | with_reducible refine Pr_bind (fun x => x) ?_ (fun x hx => ?_)
    | with_reducible refine Pr_bind (fun x => x.2) ?_ (fun x hx => ?_)
    | with_reducible refine Pr_bind (fun x => x.2.2) ?_ (fun x hx => ?_)
    | with_reducible refine Pr_bind (fun x => x.2.2.2) ?_ (fun x hx => ?_)
    | with_reducible refine Pr_bind (fun x => x.2.2.2.2) ?_ (fun x hx => ?_)
    | with_reducible refine Pr_bindN (fun x => ?_)
    | with_reducible refine Ag.up ?_ (by unfold PM; omega)
    | with_reducible refine Ag.cp ?_ (by unfold PM; omega)
    | assumption
    | exact Ag.rf
theorem fr_X12_priceLine {M m : MM}  (h : Ag PM m M) : Pr PM M (fun (y : Int × MM) => y.2) (f_X12_priceLine m) := by
  unfold f_X12_priceLine
  repeat' first
    | with_reducible refine Pr_some ?_
    | with_reducible refine fr_X12_wrong ?_
    | with_reducible refine fr_X12_token ?_
    | with_reducible refine fr_X12_number ?_
    | with_reducible refine Pr_gd ?_
    | with_reducible refine Pr_ite ?_ ?_
    | with_reducible refine Pr_bM ?_ (fun m hm => ?_)
    | with_reducible refine Pr_bI (fun x => ?_)
    | with_reducible refine Pr_gH (fun b hb => ?_)
    | with_reducible refine Pr_bS (fun x => x) ?_ (fun x hx => ?_)
    | with_reducible refine Pr_bS (fun x => x.2) ?_ (fun x hx => ?_)
    | with_reducible refine Pr_bS (fun x => x.2.2) ?_ (fun x hx => ?_)
    | with_reducible refine Pr_bS (fun x => x.2.2.2) ?_ (fun x hx => ?_)
    | with_reducible refine Pr_bS (fun x => x.2.2.2.2) ?_ (fun x hx => ?_)
    | with_reducible refine Pr_bS (fun _ => M) ?_ (fun x hx => ?_)
    | with_reducible refine Pr_lp (fun x => x) (fun x hx => ?_) _ _ ?_
    | with_reducible refine Pr_lp (fun x => x.2) (fun x hx => ?_) _ _ ?_
    | with_reducible refine Pr_lp (fun x => x.2.2) (fun x hx => ?_) _ _ ?_
    | with_reducible refine Pr_lp (fun x => x.2.2.2) (fun x hx => ?_) _ _ ?_
    | with_reducible refine Pr_lp (fun x => x.2.2.2.2) (fun x hx => ?_) _ _ ?_
    | with_reducible refine Pr_lp (fun _ => M) (fun x hx => ?_) _ _ ?_
    | with_reducible refine Pr_bind (fun x => x) ?_ (fun x hx => ?_)
    | with_reducible refine Pr_bind (fun x => x.2) ?_ (fun x hx => ?_)
    | with_reducible refine Pr_bind (fun x => x.2.2) ?_ (fun x hx => ?_)
    | with_reducible refine Pr_bind (fun x => x.2.2.2) ?_ (fun x hx => ?_)
    | with_reducible refine Pr_bind (fun x => x.2.2.2.2) ?_ (fun x hx => ?_)
    | with_reducible refine Pr_bindN (fun x => ?_)
    | with_reducible refine Ag.up ?_ (by unfold PM; omega)
    | with_reducible refine Ag.cp ?_ (by unfold PM; omega)
    | assumption
    | exact Ag.rf
theorem fr_X12_waitsFor {M m : MM} {p1 : Int} (h : Ag PM m M) : Pr PM M (fun (y : MM) => y) (f_X12_waitsFor m p1) := by
  unfold f_X12_waitsFor
  repeat' first
    | with_reducible refine Pr_some ?_
    | with_reducible refine Pr_gd ?_
    | with_reducible refine Pr_ite ?_ ?_
    | with_reducible refine Pr_bM ?_ (fun m hm => ?_)
    | with_reducible refine Pr_bI (fun x => ?_)
    | with_reducible refine Pr_gH (fun b hb => ?_)
    | with_reducible refine Pr_bS (fun x => x) ?_ (fun x hx => ?_)
    | with_reducible refine Pr_bS (fun x => x.2) ?_ (fun x hx => ?_)
    | with_reducible refine Pr_bS (fun x => x.2.2) ?_ (fun x hx => ?_)
    | with_reducible refine Pr_bS (fun x => x.2.2.2) ?_ (fun x hx => ?_)
    | with_reducible refine Pr_bS (fun x => x.2.2.2.2) ?_ (fun x hx => ?_)
    | with_reducible refine Pr_bS (fun _ => M) ?_ (fun x hx => ?_)
    | with_reducible refine Pr_lp (fun x => x) (fun x hx => ?_) _ _ ?_
    | with_reducible refine Pr_lp (fun x => x.2) (fun x hx => ?_) _ _ ?_
    | with_reducible refine Pr_lp (fun x => x.2.2) (fun x hx => ?_) _ _ ?_
    | with_reducible refine Pr_lp (fun x => x.2.2.2) (fun x hx => ?_) _ _ ?_
    | with_reducible refine Pr_lp (fun x => x.2.2.2.2) (fun x hx => ?_) _ _ ?_
    | with_reducible refine Pr_lp (fun _ => M) (fun x hx => ?_) _ _ ?_
    | with_reducible refine Pr_bind (fun x => x) ?_ (fun x hx => ?_)
    | with_reducible refine Pr_bind (fun x => x.2) ?_ (fun x hx => ?_)
    | with_reducible refine Pr_bind (fun x => x.2.2) ?_ (fun x hx => ?_)
    | with_reducible refine Pr_bind (fun x => x.2.2.2) ?_ (fun x hx => ?_)
    | with_reducible refine Pr_bind (fun x => x.2.2.2.2) ?_ (fun x hx => ?_)
    | with_reducible refine Pr_bindN (fun x => ?_)
    | with_reducible refine Ag.up ?_ (by unfold PM; omega)
    | with_reducible refine Ag.cp ?_ (by unfold PM; omega)
    | assumption
    | exact Ag.rf
theorem fr_X12_isCounted {M m : MM}  (h : Ag PM m M) : Pr PM M (fun (y : Int × MM) => y.2) (f_X12_isCounted m) := by
  unfold f_X12_isCounted
  repeat' first
    | with_reducible refine Pr_some ?_
    | with_reducible refine fr_X12_wrong ?_
    | with_reducible refine Pr_gd ?_
    | with_reducible refine Pr_ite ?_ ?_
    | with_reducible refine Pr_bM ?_ (fun m hm => ?_)
    | with_reducible refine Pr_bI (fun x => ?_)
    | with_reducible refine Pr_gH (fun b hb => ?_)
    | with_reducible refine Pr_bS (fun x => x) ?_ (fun x hx => ?_)
    | with_reducible refine Pr_bS (fun x => x.2) ?_ (fun x hx => ?_)
    | with_reducible refine Pr_bS (fun x => x.2.2) ?_ (fun x hx => ?_)
    | with_reducible refine Pr_bS (fun x => x.2.2.2) ?_ (fun x hx => ?_)
    | with_reducible refine Pr_bS (fun x => x.2.2.2.2) ?_ (fun x hx => ?_)
    | with_reducible refine Pr_bS (fun _ => M) ?_ (fun x hx => ?_)
    | with_reducible refine Pr_lp (fun x => x) (fun x hx => ?_) _ _ ?_
    | with_reducible refine Pr_lp (fun x => x.2) (fun x hx => ?_) _ _ ?_
    | with_reducible refine Pr_lp (fun x => x.2.2) (fun x hx => ?_) _ _ ?_
    | with_reducible refine Pr_lp (fun x => x.2.2.2) (fun x hx => ?_) _ _ ?_
    | with_reducible refine Pr_lp (fun x => x.2.2.2.2) (fun x hx => ?_) _ _ ?_
    | with_reducible refine Pr_lp (fun _ => M) (fun x hx => ?_) _ _ ?_
    | with_reducible refine Pr_bind (fun x => x) ?_ (fun x hx => ?_)
    | with_reducible refine Pr_bind (fun x => x.2) ?_ (fun x hx => ?_)
    | with_reducible refine Pr_bind (fun x => x.2.2) ?_ (fun x hx => ?_)
    | with_reducible refine Pr_bind (fun x => x.2.2.2) ?_ (fun x hx => ?_)
    | with_reducible refine Pr_bind (fun x => x.2.2.2.2) ?_ (fun x hx => ?_)
    | with_reducible refine Pr_bindN (fun x => ?_)
    | with_reducible refine Ag.up ?_ (by unfold PM; omega)
    | with_reducible refine Ag.cp ?_ (by unfold PM; omega)
    | assumption
    | exact Ag.rf
theorem fr_X12_grown {M m : MM} {p1 : Int} {p2 : Int} {p3 : Int} (h : Ag PM m M) : Pr PM M (fun (y : MM) => y) (f_X12_grown m p1 p2 p3) := by
  unfold f_X12_grown
  repeat' first
    | with_reducible refine Pr_some ?_
    | with_reducible refine Pr_gd ?_
    | with_reducible refine Pr_ite ?_ ?_
    | with_reducible refine Pr_bM ?_ (fun m hm => ?_)
    | with_reducible refine Pr_bI (fun x => ?_)
    | with_reducible refine Pr_gH (fun b hb => ?_)
    | with_reducible refine Pr_bS (fun x => x) ?_ (fun x hx => ?_)
    | with_reducible refine Pr_bS (fun x => x.2) ?_ (fun x hx => ?_)
    | with_reducible refine Pr_bS (fun x => x.2.2) ?_ (fun x hx => ?_)
    | with_reducible refine Pr_bS (fun x => x.2.2.2) ?_ (fun x hx => ?_)
    | with_reducible refine Pr_bS (fun x => x.2.2.2.2) ?_ (fun x hx => ?_)
    | with_reducible refine Pr_bS (fun _ => M) ?_ (fun x hx => ?_)
    | with_reducible refine Pr_lp (fun x => x) (fun x hx => ?_) _ _ ?_
    | with_reducible refine Pr_lp (fun x => x.2) (fun x hx => ?_) _ _ ?_
    | with_reducible refine Pr_lp (fun x => x.2.2) (fun x hx => ?_) _ _ ?_
    | with_reducible refine Pr_lp (fun x => x.2.2.2) (fun x hx => ?_) _ _ ?_
    | with_reducible refine Pr_lp (fun x => x.2.2.2.2) (fun x hx => ?_) _ _ ?_
    | with_reducible refine Pr_lp (fun _ => M) (fun x hx => ?_) _ _ ?_
    | with_reducible refine Pr_bind (fun x => x) ?_ (fun x hx => ?_)
    | with_reducible refine Pr_bind (fun x => x.2) ?_ (fun x hx => ?_)
    | with_reducible refine Pr_bind (fun x => x.2.2) ?_ (fun x hx => ?_)
    | with_reducible refine Pr_bind (fun x => x.2.2.2) ?_ (fun x hx => ?_)
    | with_reducible refine Pr_bind (fun x => x.2.2.2.2) ?_ (fun x hx => ?_)
    | with_reducible refine Pr_bindN (fun x => ?_)
    | with_reducible refine Ag.up ?_ (by unfold PM; omega)
    | with_reducible refine Ag.cp ?_ (by unfold PM; omega)
    | assumption
    | exact Ag.rf
theorem fr_X12_leafRead {M m : MM}  (h : Ag PM m M) : Pr PM M (fun (y : Int × MM) => y.2) (f_X12_leafRead m) := by
  unfold f_X12_leafRead
  repeat' first
    | with_reducible refine Pr_some ?_
    | with_reducible refine fr_X12_wrong ?_
    | with_reducible refine fr_X12_waitsFor ?_
    | with_reducible refine fr_X12_token ?_
    | with_reducible refine fr_X12_isCounted ?_
    | with_reducible refine fr_X12_grown ?_
    | with_reducible refine Pr_gd ?_
    | with_reducible refine Pr_ite ?_ ?_
    | with_reducible refine Pr_bM ?_ (fun m hm => ?_)
    | with_reducible refine Pr_bI (fun x => ?_)
    | with_reducible refine Pr_gH (fun b hb => ?_)
    | with_reducible refine Pr_bS (fun x => x) ?_ (fun x hx => ?_)
    | with_reducible refine Pr_bS (fun x => x.2) ?_ (fun x hx => ?_)
    | with_reducible refine Pr_bS (fun x => x.2.2) ?_ (fun x hx => ?_)
    | with_reducible refine Pr_bS (fun x => x.2.2.2) ?_ (fun x hx => ?_)
    | with_reducible refine Pr_bS (fun x => x.2.2.2.2) ?_ (fun x hx => ?_)
    | with_reducible refine Pr_bS (fun _ => M) ?_ (fun x hx => ?_)
    | with_reducible refine Pr_lp (fun x => x) (fun x hx => ?_) _ _ ?_
    | with_reducible refine Pr_lp (fun x => x.2) (fun x hx => ?_) _ _ ?_
    | with_reducible refine Pr_lp (fun x => x.2.2) (fun x hx => ?_) _ _ ?_
    | with_reducible refine Pr_lp (fun x => x.2.2.2) (fun x hx => ?_) _ _ ?_
    | with_reducible refine Pr_lp (fun x => x.2.2.2.2) (fun x hx => ?_) _ _ ?_
    | with_reducible refine Pr_lp (fun _ => M) (fun x hx => ?_) _ _ ?_
    | with_reducible refine Pr_bind (fun x => x) ?_ (fun x hx => ?_)
    | with_reducible refine Pr_bind (fun x => x.2) ?_ (fun x hx => ?_)
    | with_reducible refine Pr_bind (fun x => x.2.2) ?_ (fun x hx => ?_)
    | with_reducible refine Pr_bind (fun x => x.2.2.2) ?_ (fun x hx => ?_)
    | with_reducible refine Pr_bind (fun x => x.2.2.2.2) ?_ (fun x hx => ?_)
    | with_reducible refine Pr_bindN (fun x => ?_)
    | with_reducible refine Ag.up ?_ (by unfold PM; omega)
    | with_reducible refine Ag.cp ?_ (by unfold PM; omega)
    | assumption
    | exact Ag.rf
theorem fr_X12_dropHeld {M m : MM}  (h : Ag PM m M) : Pr PM M (fun (y : Int × MM) => y.2) (f_X12_dropHeld m) := by
  unfold f_X12_dropHeld
  repeat' first
    | with_reducible refine Pr_some ?_
    | with_reducible refine Pr_gd ?_
    | with_reducible refine Pr_ite ?_ ?_
    | with_reducible refine Pr_bM ?_ (fun m hm => ?_)
    | with_reducible refine Pr_bI (fun x => ?_)
    | with_reducible refine Pr_gH (fun b hb => ?_)
    | with_reducible refine Pr_bS (fun x => x) ?_ (fun x hx => ?_)
    | with_reducible refine Pr_bS (fun x => x.2) ?_ (fun x hx => ?_)
    | with_reducible refine Pr_bS (fun x => x.2.2) ?_ (fun x hx => ?_)
    | with_reducible refine Pr_bS (fun x => x.2.2.2) ?_ (fun x hx => ?_)
    | with_reducible refine Pr_bS (fun x => x.2.2.2.2) ?_ (fun x hx => ?_)
    | with_reducible refine Pr_bS (fun _ => M) ?_ (fun x hx => ?_)
    | with_reducible refine Pr_lp (fun x => x) (fun x hx => ?_) _ _ ?_
    | with_reducible refine Pr_lp (fun x => x.2) (fun x hx => ?_) _ _ ?_
    | with_reducible refine Pr_lp (fun x => x.2.2) (fun x hx => ?_) _ _ ?_
    | with_reducible refine Pr_lp (fun x => x.2.2.2) (fun x hx => ?_) _ _ ?_
    | with_reducible refine Pr_lp (fun x => x.2.2.2.2) (fun x hx => ?_) _ _ ?_
    | with_reducible refine Pr_lp (fun _ => M) (fun x hx => ?_) _ _ ?_
    | with_reducible refine Pr_bind (fun x => x) ?_ (fun x hx => ?_)
    | with_reducible refine Pr_bind (fun x => x.2) ?_ (fun x hx => ?_)
    | with_reducible refine Pr_bind (fun x => x.2.2) ?_ (fun x hx => ?_)
    | with_reducible refine Pr_bind (fun x => x.2.2.2) ?_ (fun x hx => ?_)
    | with_reducible refine Pr_bind (fun x => x.2.2.2.2) ?_ (fun x hx => ?_)
    | with_reducible refine Pr_bindN (fun x => ?_)
    | with_reducible refine Ag.up ?_ (by unfold PM; omega)
    | with_reducible refine Ag.cp ?_ (by unfold PM; omega)
    | assumption
    | exact Ag.rf
theorem fr_X12_bind {M m : MM} {p1 : Int} (h : Ag PM m M) : Pr PM M (fun (y : MM) => y) (f_X12_bind m p1) := by
  unfold f_X12_bind
  repeat' first
    | with_reducible refine Pr_some ?_
    | with_reducible refine fr_X12_dropHeld ?_
    | with_reducible refine fr_X12_grown ?_
    | with_reducible refine Pr_gd ?_
    | with_reducible refine Pr_ite ?_ ?_
    | with_reducible refine Pr_bM ?_ (fun m hm => ?_)
    | with_reducible refine Pr_bI (fun x => ?_)
    | with_reducible refine Pr_gH (fun b hb => ?_)
    | with_reducible refine Pr_bS (fun x => x) ?_ (fun x hx => ?_)
    | with_reducible refine Pr_bS (fun x => x.2) ?_ (fun x hx => ?_)
    | with_reducible refine Pr_bS (fun x => x.2.2) ?_ (fun x hx => ?_)
    | with_reducible refine Pr_bS (fun x => x.2.2.2) ?_ (fun x hx => ?_)
    | with_reducible refine Pr_bS (fun x => x.2.2.2.2) ?_ (fun x hx => ?_)
    | with_reducible refine Pr_bS (fun _ => M) ?_ (fun x hx => ?_)
    | with_reducible refine Pr_lp (fun x => x) (fun x hx => ?_) _ _ ?_
    | with_reducible refine Pr_lp (fun x => x.2) (fun x hx => ?_) _ _ ?_
    | with_reducible refine Pr_lp (fun x => x.2.2) (fun x hx => ?_) _ _ ?_
    | with_reducible refine Pr_lp (fun x => x.2.2.2) (fun x hx => ?_) _ _ ?_
    | with_reducible refine Pr_lp (fun x => x.2.2.2.2) (fun x hx => ?_) _ _ ?_
    | with_reducible refine Pr_lp (fun _ => M) (fun x hx => ?_) _ _ ?_
    | with_reducible refine Pr_bind (fun x => x) ?_ (fun x hx => ?_)
    | with_reducible refine Pr_bind (fun x => x.2) ?_ (fun x hx => ?_)
    | with_reducible refine Pr_bind (fun x => x.2.2) ?_ (fun x hx => ?_)
    | with_reducible refine Pr_bind (fun x => x.2.2.2) ?_ (fun x hx => ?_)
    | with_reducible refine Pr_bind (fun x => x.2.2.2.2) ?_ (fun x hx => ?_)
    | with_reducible refine Pr_bindN (fun x => ?_)
    | with_reducible refine Ag.up ?_ (by unfold PM; omega)
    | with_reducible refine Ag.cp ?_ (by unfold PM; omega)
    | assumption
    | exact Ag.rf
theorem fr_X12_signs {M m : MM}  (h : Ag PM m M) : Pr PM M (fun (y : Int × MM) => y.2) (f_X12_signs m) := by
  unfold f_X12_signs
  repeat' first
    | with_reducible refine Pr_some ?_
    | with_reducible refine fr_X12_bind ?_
    | with_reducible refine fr_X12_token ?_
    | with_reducible refine fr_X12_wrong ?_
    | with_reducible refine fr_X12_isCounted ?_
    | with_reducible refine fr_X12_waitsFor ?_
    | with_reducible refine Pr_gd ?_
    | with_reducible refine Pr_ite ?_ ?_
    | with_reducible refine Pr_bM ?_ (fun m hm => ?_)
    | with_reducible refine Pr_bI (fun x => ?_)
    | with_reducible refine Pr_gH (fun b hb => ?_)
    | with_reducible refine Pr_bS (fun x => x) ?_ (fun x hx => ?_)
    | with_reducible refine Pr_bS (fun x => x.2) ?_ (fun x hx => ?_)
    | with_reducible refine Pr_bS (fun x => x.2.2) ?_ (fun x hx => ?_)
    | with_reducible refine Pr_bS (fun x => x.2.2.2) ?_ (fun x hx => ?_)
    | with_reducible refine Pr_bS (fun x => x.2.2.2.2) ?_ (fun x hx => ?_)
    | with_reducible refine Pr_bS (fun _ => M) ?_ (fun x hx => ?_)
    | with_reducible refine Pr_lp (fun x => x) (fun x hx => ?_) _ _ ?_
    | with_reducible refine Pr_lp (fun x => x.2) (fun x hx => ?_) _ _ ?_
    | with_reducible refine Pr_lp (fun x => x.2.2) (fun x hx => ?_) _ _ ?_
    | with_reducible refine Pr_lp (fun x => x.2.2.2) (fun x hx => ?_) _ _ ?_
    | with_reducible refine Pr_lp (fun x => x.2.2.2.2) (fun x hx => ?_) _ _ ?_
    | with_reducible refine Pr_lp (fun _ => M) (fun x hx => ?_) _ _ ?_
    | with_reducible refine Pr_bind (fun x => x) ?_ (fun x hx => ?_)
    | with_reducible refine Pr_bind (fun x => x.2) ?_ (fun x hx => ?_)
    | with_reducible refine Pr_bind (fun x => x.2.2) ?_ (fun x hx => ?_)
    | with_reducible refine Pr_bind (fun x => x.2.2.2) ?_ (fun x hx => ?_)
    | with_reducible refine Pr_bind (fun x => x.2.2.2.2) ?_ (fun x hx => ?_)
    | with_reducible refine Pr_bindN (fun x => ?_)
    | with_reducible refine Ag.up ?_ (by unfold PM; omega)
    | with_reducible refine Ag.cp ?_ (by unfold PM; omega)
    | assumption
    | exact Ag.rf
theorem fr_X12_sumRead {M m : MM}  (h : Ag PM m M) : Pr PM M (fun (y : Int × MM) => y.2) (f_X12_sumRead m) := by
  unfold f_X12_sumRead
  repeat' first
    | with_reducible refine Pr_some ?_
    | with_reducible refine fr_X12_leafRead ?_
    | with_reducible refine fr_X12_signs ?_
    | with_reducible refine fr_X12_bind ?_
    | with_reducible refine Pr_gd ?_
    | with_reducible refine Pr_ite ?_ ?_
    | with_reducible refine Pr_bM ?_ (fun m hm => ?_)
    | with_reducible refine Pr_bI (fun x => ?_)
    | with_reducible refine Pr_gH (fun b hb => ?_)
    | with_reducible refine Pr_bS (fun x => x) ?_ (fun x hx => ?_)
    | with_reducible refine Pr_bS (fun x => x.2) ?_ (fun x hx => ?_)
    | with_reducible refine Pr_bS (fun x => x.2.2) ?_ (fun x hx => ?_)
    | with_reducible refine Pr_bS (fun x => x.2.2.2) ?_ (fun x hx => ?_)
    | with_reducible refine Pr_bS (fun x => x.2.2.2.2) ?_ (fun x hx => ?_)
    | with_reducible refine Pr_bS (fun _ => M) ?_ (fun x hx => ?_)
    | with_reducible refine Pr_lp (fun x => x) (fun x hx => ?_) _ _ ?_
    | with_reducible refine Pr_lp (fun x => x.2) (fun x hx => ?_) _ _ ?_
    | with_reducible refine Pr_lp (fun x => x.2.2) (fun x hx => ?_) _ _ ?_
    | with_reducible refine Pr_lp (fun x => x.2.2.2) (fun x hx => ?_) _ _ ?_
    | with_reducible refine Pr_lp (fun x => x.2.2.2.2) (fun x hx => ?_) _ _ ?_
    | with_reducible refine Pr_lp (fun _ => M) (fun x hx => ?_) _ _ ?_
    | with_reducible refine Pr_bind (fun x => x) ?_ (fun x hx => ?_)
    | with_reducible refine Pr_bind (fun x => x.2) ?_ (fun x hx => ?_)
    | with_reducible refine Pr_bind (fun x => x.2.2) ?_ (fun x hx => ?_)
    | with_reducible refine Pr_bind (fun x => x.2.2.2) ?_ (fun x hx => ?_)
    | with_reducible refine Pr_bind (fun x => x.2.2.2.2) ?_ (fun x hx => ?_)
    | with_reducible refine Pr_bindN (fun x => ?_)
    | with_reducible refine Ag.up ?_ (by unfold PM; omega)
    | with_reducible refine Ag.cp ?_ (by unfold PM; omega)
    | assumption
    | exact Ag.rf
theorem fr_X12_lineRead {M m : MM}  (h : Ag PM m M) : Pr PM M (fun (y : Int × MM) => y.2) (f_X12_lineRead m) := by
  unfold f_X12_lineRead
  repeat' first
    | with_reducible refine Pr_some ?_
    | with_reducible refine fr_X12_wrong ?_
    | with_reducible refine fr_X12_roomLine ?_
    | with_reducible refine fr_X12_personLine ?_
    | with_reducible refine fr_X12_sunLine ?_
    | with_reducible refine fr_X12_outLine ?_
    | with_reducible refine fr_X12_knobLine ?_
    | with_reducible refine fr_X12_priceLine ?_
    | with_reducible refine fr_X12_token ?_
    | with_reducible refine fr_X12_sumRead ?_
    | with_reducible refine Pr_gd ?_
    | with_reducible refine Pr_ite ?_ ?_
    | with_reducible refine Pr_bM ?_ (fun m hm => ?_)
    | with_reducible refine Pr_bI (fun x => ?_)
    | with_reducible refine Pr_gH (fun b hb => ?_)
    | with_reducible refine Pr_bS (fun x => x) ?_ (fun x hx => ?_)
    | with_reducible refine Pr_bS (fun x => x.2) ?_ (fun x hx => ?_)
    | with_reducible refine Pr_bS (fun x => x.2.2) ?_ (fun x hx => ?_)
    | with_reducible refine Pr_bS (fun x => x.2.2.2) ?_ (fun x hx => ?_)
    | with_reducible refine Pr_bS (fun x => x.2.2.2.2) ?_ (fun x hx => ?_)
    | with_reducible refine Pr_bS (fun _ => M) ?_ (fun x hx => ?_)
    | with_reducible refine Pr_lp (fun x => x) (fun x hx => ?_) _ _ ?_
    | with_reducible refine Pr_lp (fun x => x.2) (fun x hx => ?_) _ _ ?_
    | with_reducible refine Pr_lp (fun x => x.2.2) (fun x hx => ?_) _ _ ?_
    | with_reducible refine Pr_lp (fun x => x.2.2.2) (fun x hx => ?_) _ _ ?_
    | with_reducible refine Pr_lp (fun x => x.2.2.2.2) (fun x hx => ?_) _ _ ?_
    | with_reducible refine Pr_lp (fun _ => M) (fun x hx => ?_) _ _ ?_
    | with_reducible refine Pr_bind (fun x => x) ?_ (fun x hx => ?_)
    | with_reducible refine Pr_bind (fun x => x.2) ?_ (fun x hx => ?_)
    | with_reducible refine Pr_bind (fun x => x.2.2) ?_ (fun x hx => ?_)
    | with_reducible refine Pr_bind (fun x => x.2.2.2) ?_ (fun x hx => ?_)
    | with_reducible refine Pr_bind (fun x => x.2.2.2.2) ?_ (fun x hx => ?_)
    | with_reducible refine Pr_bindN (fun x => ?_)
    | with_reducible refine Ag.up ?_ (by unfold PM; omega)
    | with_reducible refine Ag.cp ?_ (by unfold PM; omega)
    | assumption
    | exact Ag.rf
theorem fr_X12_text {M m : MM} {p1 : Int} (h : Ag PM m M) : Pr PM M (fun (y : Int × MM) => y.2) (f_X12_text m p1) := by
  unfold f_X12_text
  repeat' first
    | with_reducible refine Pr_some ?_
    | with_reducible refine fr_X12_plain ?_
    | with_reducible refine fr_X12_token ?_
    | with_reducible refine fr_X12_lineRead ?_
    | with_reducible refine fr_X12_keepText ?_
    | with_reducible refine Pr_gd ?_
    | with_reducible refine Pr_ite ?_ ?_
    | with_reducible refine Pr_bM ?_ (fun m hm => ?_)
    | with_reducible refine Pr_bI (fun x => ?_)
    | with_reducible refine Pr_gH (fun b hb => ?_)
    | with_reducible refine Pr_bS (fun x => x) ?_ (fun x hx => ?_)
    | with_reducible refine Pr_bS (fun x => x.2) ?_ (fun x hx => ?_)
    | with_reducible refine Pr_bS (fun x => x.2.2) ?_ (fun x hx => ?_)
    | with_reducible refine Pr_bS (fun x => x.2.2.2) ?_ (fun x hx => ?_)
    | with_reducible refine Pr_bS (fun x => x.2.2.2.2) ?_ (fun x hx => ?_)
    | with_reducible refine Pr_bS (fun _ => M) ?_ (fun x hx => ?_)
    | with_reducible refine Pr_lp (fun x => x) (fun x hx => ?_) _ _ ?_
    | with_reducible refine Pr_lp (fun x => x.2) (fun x hx => ?_) _ _ ?_
    | with_reducible refine Pr_lp (fun x => x.2.2) (fun x hx => ?_) _ _ ?_
    | with_reducible refine Pr_lp (fun x => x.2.2.2) (fun x hx => ?_) _ _ ?_
    | with_reducible refine Pr_lp (fun x => x.2.2.2.2) (fun x hx => ?_) _ _ ?_
    | with_reducible refine Pr_lp (fun _ => M) (fun x hx => ?_) _ _ ?_
    | with_reducible refine Pr_bind (fun x => x) ?_ (fun x hx => ?_)
    | with_reducible refine Pr_bind (fun x => x.2) ?_ (fun x hx => ?_)
    | with_reducible refine Pr_bind (fun x => x.2.2) ?_ (fun x hx => ?_)
    | with_reducible refine Pr_bind (fun x => x.2.2.2) ?_ (fun x hx => ?_)
    | with_reducible refine Pr_bind (fun x => x.2.2.2.2) ?_ (fun x hx => ?_)
    | with_reducible refine Pr_bindN (fun x => ?_)
    | with_reducible refine Ag.up ?_ (by unfold PM; omega)
    | with_reducible refine Ag.cp ?_ (by unfold PM; omega)
    | assumption
    | exact Ag.rf
theorem fr_X12_fault {M m : MM} {p1 : Int} (h : Ag PM m M) : Pr PM M (fun (y : Int × MM) => y.2) (f_X12_fault m p1) := by
  unfold f_X12_fault
  repeat' first
    | with_reducible refine Pr_some ?_
    | with_reducible refine Pr_gd ?_
    | with_reducible refine Pr_ite ?_ ?_
    | with_reducible refine Pr_bM ?_ (fun m hm => ?_)
    | with_reducible refine Pr_bI (fun x => ?_)
    | with_reducible refine Pr_gH (fun b hb => ?_)
    | with_reducible refine Pr_bS (fun x => x) ?_ (fun x hx => ?_)
    | with_reducible refine Pr_bS (fun x => x.2) ?_ (fun x hx => ?_)
    | with_reducible refine Pr_bS (fun x => x.2.2) ?_ (fun x hx => ?_)
    | with_reducible refine Pr_bS (fun x => x.2.2.2) ?_ (fun x hx => ?_)
    | with_reducible refine Pr_bS (fun x => x.2.2.2.2) ?_ (fun x hx => ?_)
    | with_reducible refine Pr_bS (fun _ => M) ?_ (fun x hx => ?_)
    | with_reducible refine Pr_lp (fun x => x) (fun x hx => ?_) _ _ ?_
    | with_reducible refine Pr_lp (fun x => x.2) (fun x hx => ?_) _ _ ?_
    | with_reducible refine Pr_lp (fun x => x.2.2) (fun x hx => ?_) _ _ ?_
    | with_reducible refine Pr_lp (fun x => x.2.2.2) (fun x hx => ?_) _ _ ?_
    | with_reducible refine Pr_lp (fun x => x.2.2.2.2) (fun x hx => ?_) _ _ ?_
    | with_reducible refine Pr_lp (fun _ => M) (fun x hx => ?_) _ _ ?_
    | with_reducible refine Pr_bind (fun x => x) ?_ (fun x hx => ?_)
    | with_reducible refine Pr_bind (fun x => x.2) ?_ (fun x hx => ?_)
    | with_reducible refine Pr_bind (fun x => x.2.2) ?_ (fun x hx => ?_)
    | with_reducible refine Pr_bind (fun x => x.2.2.2) ?_ (fun x hx => ?_)
    | with_reducible refine Pr_bind (fun x => x.2.2.2.2) ?_ (fun x hx => ?_)
    | with_reducible refine Pr_bindN (fun x => ?_)
    | with_reducible refine Ag.up ?_ (by unfold PM; omega)
    | with_reducible refine Ag.cp ?_ (by unfold PM; omega)
    | assumption
    | exact Ag.rf
theorem fr_X12_named {M m : MM} {p1 : Int} {p2 : Int} (h : Ag PM m M) : Pr PM M (fun (y : Int × MM) => y.2) (f_X12_named m p1 p2) := by
  unfold f_X12_named
  repeat' first
    | with_reducible refine Pr_some ?_
    | with_reducible refine Pr_gd ?_
    | with_reducible refine Pr_ite ?_ ?_
    | with_reducible refine Pr_bM ?_ (fun m hm => ?_)
    | with_reducible refine Pr_bI (fun x => ?_)
    | with_reducible refine Pr_gH (fun b hb => ?_)
    | with_reducible refine Pr_bS (fun x => x) ?_ (fun x hx => ?_)
    | with_reducible refine Pr_bS (fun x => x.2) ?_ (fun x hx => ?_)
    | with_reducible refine Pr_bS (fun x => x.2.2) ?_ (fun x hx => ?_)
    | with_reducible refine Pr_bS (fun x => x.2.2.2) ?_ (fun x hx => ?_)
    | with_reducible refine Pr_bS (fun x => x.2.2.2.2) ?_ (fun x hx => ?_)
    | with_reducible refine Pr_bS (fun _ => M) ?_ (fun x hx => ?_)
    | with_reducible refine Pr_lp (fun x => x) (fun x hx => ?_) _ _ ?_
    | with_reducible refine Pr_lp (fun x => x.2) (fun x hx => ?_) _ _ ?_
    | with_reducible refine Pr_lp (fun x => x.2.2) (fun x hx => ?_) _ _ ?_
    | with_reducible refine Pr_lp (fun x => x.2.2.2) (fun x hx => ?_) _ _ ?_
    | with_reducible refine Pr_lp (fun x => x.2.2.2.2) (fun x hx => ?_) _ _ ?_
    | with_reducible refine Pr_lp (fun _ => M) (fun x hx => ?_) _ _ ?_
    | with_reducible refine Pr_bind (fun x => x) ?_ (fun x hx => ?_)
    | with_reducible refine Pr_bind (fun x => x.2) ?_ (fun x hx => ?_)
    | with_reducible refine Pr_bind (fun x => x.2.2) ?_ (fun x hx => ?_)
    | with_reducible refine Pr_bind (fun x => x.2.2.2) ?_ (fun x hx => ?_)
    | with_reducible refine Pr_bind (fun x => x.2.2.2.2) ?_ (fun x hx => ?_)
    | with_reducible refine Pr_bindN (fun x => ?_)
    | with_reducible refine Ag.up ?_ (by unfold PM; omega)
    | with_reducible refine Ag.cp ?_ (by unfold PM; omega)
    | assumption
    | exact Ag.rf
theorem fr_X12_bounded {M m : MM} {p1 : Int} (h : Ag PM m M) : Pr PM M (fun (y : Int × MM) => y.2) (f_X12_bounded m p1) := by
  unfold f_X12_bounded
  repeat' first
    | with_reducible refine Pr_some ?_
    | with_reducible refine Pr_gd ?_
    | with_reducible refine Pr_ite ?_ ?_
    | with_reducible refine Pr_bM ?_ (fun m hm => ?_)
    | with_reducible refine Pr_bI (fun x => ?_)
    | with_reducible refine Pr_gH (fun b hb => ?_)
    | with_reducible refine Pr_bS (fun x => x) ?_ (fun x hx => ?_)
    | with_reducible refine Pr_bS (fun x => x.2) ?_ (fun x hx => ?_)
    | with_reducible refine Pr_bS (fun x => x.2.2) ?_ (fun x hx => ?_)
    | with_reducible refine Pr_bS (fun x => x.2.2.2) ?_ (fun x hx => ?_)
    | with_reducible refine Pr_bS (fun x => x.2.2.2.2) ?_ (fun x hx => ?_)
    | with_reducible refine Pr_bS (fun _ => M) ?_ (fun x hx => ?_)
    | with_reducible refine Pr_lp (fun x => x) (fun x hx => ?_) _ _ ?_
    | with_reducible refine Pr_lp (fun x => x.2) (fun x hx => ?_) _ _ ?_
    | with_reducible refine Pr_lp (fun x => x.2.2) (fun x hx => ?_) _ _ ?_
    | with_reducible refine Pr_lp (fun x => x.2.2.2) (fun x hx => ?_) _ _ ?_
    | with_reducible refine Pr_lp (fun x => x.2.2.2.2) (fun x hx => ?_) _ _ ?_
    | with_reducible refine Pr_lp (fun _ => M) (fun x hx => ?_) _ _ ?_
    | with_reducible refine Pr_bind (fun x => x) ?_ (fun x hx => ?_)
    | with_reducible refine Pr_bind (fun x => x.2) ?_ (fun x hx => ?_)
    | with_reducible refine Pr_bind (fun x => x.2.2) ?_ (fun x hx => ?_)
    | with_reducible refine Pr_bind (fun x => x.2.2.2) ?_ (fun x hx => ?_)
    | with_reducible refine Pr_bind (fun x => x.2.2.2.2) ?_ (fun x hx => ?_)
    | with_reducible refine Pr_bindN (fun x => ?_)
    | with_reducible refine Ag.up ?_ (by unfold PM; omega)
    | with_reducible refine Ag.cp ?_ (by unfold PM; omega)
    | assumption
    | exact Ag.rf
theorem fr_X12_times {M m : MM} {p1 : Int} {p2 : Int} (h : Ag PM m M) : Pr PM M (fun (y : Int × MM) => y.2) (f_X12_times m p1 p2) := by
  unfold f_X12_times
  repeat' first
    | with_reducible refine Pr_some ?_
    | with_reducible refine Pr_gd ?_
    | with_reducible refine Pr_ite ?_ ?_
    | with_reducible refine Pr_bM ?_ (fun m hm => ?_)
    | with_reducible refine Pr_bI (fun x => ?_)
    | with_reducible refine Pr_gH (fun b hb => ?_)
    | with_reducible refine Pr_bS (fun x => x) ?_ (fun x hx => ?_)
    | with_reducible refine Pr_bS (fun x => x.2) ?_ (fun x hx => ?_)
    | with_reducible refine Pr_bS (fun x => x.2.2) ?_ (fun x hx => ?_)
    | with_reducible refine Pr_bS (fun x => x.2.2.2) ?_ (fun x hx => ?_)
    | with_reducible refine Pr_bS (fun x => x.2.2.2.2) ?_ (fun x hx => ?_)
    | with_reducible refine Pr_bS (fun _ => M) ?_ (fun x hx => ?_)
    | with_reducible refine Pr_lp (fun x => x) (fun x hx => ?_) _ _ ?_
    | with_reducible refine Pr_lp (fun x => x.2) (fun x hx => ?_) _ _ ?_
    | with_reducible refine Pr_lp (fun x => x.2.2) (fun x hx => ?_) _ _ ?_
    | with_reducible refine Pr_lp (fun x => x.2.2.2) (fun x hx => ?_) _ _ ?_
    | with_reducible refine Pr_lp (fun x => x.2.2.2.2) (fun x hx => ?_) _ _ ?_
    | with_reducible refine Pr_lp (fun _ => M) (fun x hx => ?_) _ _ ?_
    | with_reducible refine Pr_bind (fun x => x) ?_ (fun x hx => ?_)
    | with_reducible refine Pr_bind (fun x => x.2) ?_ (fun x hx => ?_)
    | with_reducible refine Pr_bind (fun x => x.2.2) ?_ (fun x hx => ?_)
    | with_reducible refine Pr_bind (fun x => x.2.2.2) ?_ (fun x hx => ?_)
    | with_reducible refine Pr_bind (fun x => x.2.2.2.2) ?_ (fun x hx => ?_)
    | with_reducible refine Pr_bindN (fun x => ?_)
    | with_reducible refine Ag.up ?_ (by unfold PM; omega)
    | with_reducible refine Ag.cp ?_ (by unfold PM; omega)
    | assumption
    | exact Ag.rf
theorem fr_X12_valueOf {M m : MM} {p1 : Int} (h : Ag PM m M) : Pr PM M (fun (y : Int × MM) => y.2) (f_X12_valueOf m p1) := by
  unfold f_X12_valueOf
  repeat' first
    | with_reducible refine Pr_some ?_
    | with_reducible refine fr_X12_bounded ?_
    | with_reducible refine fr_X12_times ?_
    | with_reducible refine Pr_gd ?_
    | with_reducible refine Pr_ite ?_ ?_
    | with_reducible refine Pr_bM ?_ (fun m hm => ?_)
    | with_reducible refine Pr_bI (fun x => ?_)
    | with_reducible refine Pr_gH (fun b hb => ?_)
    | with_reducible refine Pr_bS (fun x => x) ?_ (fun x hx => ?_)
    | with_reducible refine Pr_bS (fun x => x.2) ?_ (fun x hx => ?_)
    | with_reducible refine Pr_bS (fun x => x.2.2) ?_ (fun x hx => ?_)
    | with_reducible refine Pr_bS (fun x => x.2.2.2) ?_ (fun x hx => ?_)
    | with_reducible refine Pr_bS (fun x => x.2.2.2.2) ?_ (fun x hx => ?_)
    | with_reducible refine Pr_bS (fun _ => M) ?_ (fun x hx => ?_)
    | with_reducible refine Pr_lp (fun x => x) (fun x hx => ?_) _ _ ?_
    | with_reducible refine Pr_lp (fun x => x.2) (fun x hx => ?_) _ _ ?_
    | with_reducible refine Pr_lp (fun x => x.2.2) (fun x hx => ?_) _ _ ?_
    | with_reducible refine Pr_lp (fun x => x.2.2.2) (fun x hx => ?_) _ _ ?_
    | with_reducible refine Pr_lp (fun x => x.2.2.2.2) (fun x hx => ?_) _ _ ?_
    | with_reducible refine Pr_lp (fun _ => M) (fun x hx => ?_) _ _ ?_
    | with_reducible refine Pr_bind (fun x => x) ?_ (fun x hx => ?_)
    | with_reducible refine Pr_bind (fun x => x.2) ?_ (fun x hx => ?_)
    | with_reducible refine Pr_bind (fun x => x.2.2) ?_ (fun x hx => ?_)
    | with_reducible refine Pr_bind (fun x => x.2.2.2) ?_ (fun x hx => ?_)
    | with_reducible refine Pr_bind (fun x => x.2.2.2.2) ?_ (fun x hx => ?_)
    | with_reducible refine Pr_bindN (fun x => ?_)
    | with_reducible refine Ag.up ?_ (by unfold PM; omega)
    | with_reducible refine Ag.cp ?_ (by unfold PM; omega)
    | assumption
    | exact Ag.rf
theorem fr_X12_layTried {M m : MM}  (h : Ag PM m M) : Pr PM M (fun (y : MM) => y) (f_X12_layTried m) := by
  unfold f_X12_layTried
  repeat' first
    | with_reducible refine Pr_some ?_
    | with_reducible refine fr_X12_plainTried ?_
    | with_reducible refine Pr_gd ?_
    | with_reducible refine Pr_ite ?_ ?_
    | with_reducible refine Pr_bM ?_ (fun m hm => ?_)
    | with_reducible refine Pr_bI (fun x => ?_)
    | with_reducible refine Pr_gH (fun b hb => ?_)
    | with_reducible refine Pr_bS (fun x => x) ?_ (fun x hx => ?_)
    | with_reducible refine Pr_bS (fun x => x.2) ?_ (fun x hx => ?_)
    | with_reducible refine Pr_bS (fun x => x.2.2) ?_ (fun x hx => ?_)
    | with_reducible refine Pr_bS (fun x => x.2.2.2) ?_ (fun x hx => ?_)
    | with_reducible refine Pr_bS (fun x => x.2.2.2.2) ?_ (fun x hx => ?_)
    | with_reducible refine Pr_bS (fun _ => M) ?_ (fun x hx => ?_)
    | with_reducible refine Pr_lp (fun x => x) (fun x hx => ?_) _ _ ?_
    | with_reducible refine Pr_lp (fun x => x.2) (fun x hx => ?_) _ _ ?_
    | with_reducible refine Pr_lp (fun x => x.2.2) (fun x hx => ?_) _ _ ?_
    | with_reducible refine Pr_lp (fun x => x.2.2.2) (fun x hx => ?_) _ _ ?_
    | with_reducible refine Pr_lp (fun x => x.2.2.2.2) (fun x hx => ?_) _ _ ?_
    | with_reducible refine Pr_lp (fun _ => M) (fun x hx => ?_) _ _ ?_
    | with_reducible refine Pr_bind (fun x => x) ?_ (fun x hx => ?_)
    | with_reducible refine Pr_bind (fun x => x.2) ?_ (fun x hx => ?_)
    | with_reducible refine Pr_bind (fun x => x.2.2) ?_ (fun x hx => ?_)
    | with_reducible refine Pr_bind (fun x => x.2.2.2) ?_ (fun x hx => ?_)
    | with_reducible refine Pr_bind (fun x => x.2.2.2.2) ?_ (fun x hx => ?_)
    | with_reducible refine Pr_bindN (fun x => ?_)
    | with_reducible refine Ag.up ?_ (by unfold PM; omega)
    | with_reducible refine Ag.cp ?_ (by unfold PM; omega)
    | assumption
    | exact Ag.rf
theorem fr_X12_layStill {M m : MM} {p1 : Int} (h : Ag PM m M) : Pr PM M (fun (y : MM) => y) (f_X12_layStill m p1) := by
  unfold f_X12_layStill
  repeat' first
    | with_reducible refine Pr_some ?_
    | with_reducible refine fr_X12_layTried ?_
    | with_reducible refine Pr_gd ?_
    | with_reducible refine Pr_ite ?_ ?_
    | with_reducible refine Pr_bM ?_ (fun m hm => ?_)
    | with_reducible refine Pr_bI (fun x => ?_)
    | with_reducible refine Pr_gH (fun b hb => ?_)
    | with_reducible refine Pr_bS (fun x => x) ?_ (fun x hx => ?_)
    | with_reducible refine Pr_bS (fun x => x.2) ?_ (fun x hx => ?_)
    | with_reducible refine Pr_bS (fun x => x.2.2) ?_ (fun x hx => ?_)
    | with_reducible refine Pr_bS (fun x => x.2.2.2) ?_ (fun x hx => ?_)
    | with_reducible refine Pr_bS (fun x => x.2.2.2.2) ?_ (fun x hx => ?_)
    | with_reducible refine Pr_bS (fun _ => M) ?_ (fun x hx => ?_)
    | with_reducible refine Pr_lp (fun x => x) (fun x hx => ?_) _ _ ?_
    | with_reducible refine Pr_lp (fun x => x.2) (fun x hx => ?_) _ _ ?_
    | with_reducible refine Pr_lp (fun x => x.2.2) (fun x hx => ?_) _ _ ?_
    | with_reducible refine Pr_lp (fun x => x.2.2.2) (fun x hx => ?_) _ _ ?_
    | with_reducible refine Pr_lp (fun x => x.2.2.2.2) (fun x hx => ?_) _ _ ?_
    | with_reducible refine Pr_lp (fun _ => M) (fun x hx => ?_) _ _ ?_
    | with_reducible refine Pr_bind (fun x => x) ?_ (fun x hx => ?_)
    | with_reducible refine Pr_bind (fun x => x.2) ?_ (fun x hx => ?_)
    | with_reducible refine Pr_bind (fun x => x.2.2) ?_ (fun x hx => ?_)
    | with_reducible refine Pr_bind (fun x => x.2.2.2) ?_ (fun x hx => ?_)
    | with_reducible refine Pr_bind (fun x => x.2.2.2.2) ?_ (fun x hx => ?_)
    | with_reducible refine Pr_bindN (fun x => ?_)
    | with_reducible refine Ag.up ?_ (by unfold PM; omega)
    | with_reducible refine Ag.cp ?_ (by unfold PM; omega)
    | assumption
    | exact Ag.rf
theorem fr_X12_layNames {M m : MM} {p1 : Int} {p2 : Int} {p3 : Int} {p4 : Int} (h : Ag PM m M) : Pr PM M (fun (y : MM) => y) (f_X12_layNames m p1 p2 p3 p4) := by
  unfold f_X12_layNames
  repeat' first
    | with_reducible refine Pr_some ?_
    | with_reducible refine Pr_gd ?_
    | with_reducible refine Pr_ite ?_ ?_
    | with_reducible refine Pr_bM ?_ (fun m hm => ?_)
    | with_reducible refine Pr_bI (fun x => ?_)
    | with_reducible refine Pr_gH (fun b hb => ?_)
    | with_reducible refine Pr_bS (fun x => x) ?_ (fun x hx => ?_)
    | with_reducible refine Pr_bS (fun x => x.2) ?_ (fun x hx => ?_)
    | with_reducible refine Pr_bS (fun x => x.2.2) ?_ (fun x hx => ?_)
    | with_reducible refine Pr_bS (fun x => x.2.2.2) ?_ (fun x hx => ?_)
    | with_reducible refine Pr_bS (fun x => x.2.2.2.2) ?_ (fun x hx => ?_)
    | with_reducible refine Pr_bS (fun _ => M) ?_ (fun x hx => ?_)
    | with_reducible refine Pr_lp (fun x => x) (fun x hx => ?_) _ _ ?_
    | with_reducible refine Pr_lp (fun x => x.2) (fun x hx => ?_) _ _ ?_
    | with_reducible refine Pr_lp (fun x => x.2.2) (fun x hx => ?_) _ _ ?_
    | with_reducible refine Pr_lp (fun x => x.2.2.2) (fun x hx => ?_) _ _ ?_
    | with_reducible refine Pr_lp (fun x => x.2.2.2.2) (fun x hx => ?_) _ _ ?_
    | with_reducible refine Pr_lp (fun _ => M) (fun x hx => ?_) _ _ ?_
    | with_reducible refine Pr_bind (fun x => x) ?_ (fun x hx => ?_)
    | with_reducible refine Pr_bind (fun x => x.2) ?_ (fun x hx => ?_)
    | with_reducible refine Pr_bind (fun x => x.2.2) ?_ (fun x hx => ?_)
    | with_reducible refine Pr_bind (fun x => x.2.2.2) ?_ (fun x hx => ?_)
    | with_reducible refine Pr_bind (fun x => x.2.2.2.2) ?_ (fun x hx => ?_)
    | with_reducible refine Pr_bindN (fun x => ?_)
    | with_reducible refine Ag.up ?_ (by unfold PM; omega)
    | with_reducible refine Ag.cp ?_ (by unfold PM; omega)
    | assumption
    | exact Ag.rf
theorem fr_X12_lawOf {M m : MM} {p1 : Int} (h : Ag PM m M) : Pr PM M (fun (y : Int × MM) => y.2) (f_X12_lawOf m p1) := by
  unfold f_X12_lawOf
  repeat' first
    | with_reducible refine Pr_some ?_
    | with_reducible refine fr_X12_valueOf ?_
    | with_reducible refine Pr_gd ?_
    | with_reducible refine Pr_ite ?_ ?_
    | with_reducible refine Pr_bM ?_ (fun m hm => ?_)
    | with_reducible refine Pr_bI (fun x => ?_)
    | with_reducible refine Pr_gH (fun b hb => ?_)
    | with_reducible refine Pr_bS (fun x => x) ?_ (fun x hx => ?_)
    | with_reducible refine Pr_bS (fun x => x.2) ?_ (fun x hx => ?_)
    | with_reducible refine Pr_bS (fun x => x.2.2) ?_ (fun x hx => ?_)
    | with_reducible refine Pr_bS (fun x => x.2.2.2) ?_ (fun x hx => ?_)
    | with_reducible refine Pr_bS (fun x => x.2.2.2.2) ?_ (fun x hx => ?_)
    | with_reducible refine Pr_bS (fun _ => M) ?_ (fun x hx => ?_)
    | with_reducible refine Pr_lp (fun x => x) (fun x hx => ?_) _ _ ?_
    | with_reducible refine Pr_lp (fun x => x.2) (fun x hx => ?_) _ _ ?_
    | with_reducible refine Pr_lp (fun x => x.2.2) (fun x hx => ?_) _ _ ?_
    | with_reducible refine Pr_lp (fun x => x.2.2.2) (fun x hx => ?_) _ _ ?_
    | with_reducible refine Pr_lp (fun x => x.2.2.2.2) (fun x hx => ?_) _ _ ?_
    | with_reducible refine Pr_lp (fun _ => M) (fun x hx => ?_) _ _ ?_
    | with_reducible refine Pr_bind (fun x => x) ?_ (fun x hx => ?_)
    | with_reducible refine Pr_bind (fun x => x.2) ?_ (fun x hx => ?_)
    | with_reducible refine Pr_bind (fun x => x.2.2) ?_ (fun x hx => ?_)
    | with_reducible refine Pr_bind (fun x => x.2.2.2) ?_ (fun x hx => ?_)
    | with_reducible refine Pr_bind (fun x => x.2.2.2.2) ?_ (fun x hx => ?_)
    | with_reducible refine Pr_bindN (fun x => ?_)
    | with_reducible refine Ag.up ?_ (by unfold PM; omega)
    | with_reducible refine Ag.cp ?_ (by unfold PM; omega)
    | assumption
    | exact Ag.rf
theorem fr_X12_boundLaw {M m : MM} {p1 : Int} {p2 : Int} {p3 : Int} {p4 : Int} (h : Ag PM m M) : Pr PM M (fun (y : Int × MM) => y.2) (f_X12_boundLaw m p1 p2 p3 p4) := by
  unfold f_X12_boundLaw
  repeat' first
    | with_reducible refine Pr_some ?_
    | with_reducible refine fr_X12_lawOf ?_
    | with_reducible refine Pr_gd ?_
    | with_reducible refine Pr_ite ?_ ?_
    | with_reducible refine Pr_bM ?_ (fun m hm => ?_)
    | with_reducible refine Pr_bI (fun x => ?_)
    | with_reducible refine Pr_gH (fun b hb => ?_)
    | with_reducible refine Pr_bS (fun x => x) ?_ (fun x hx => ?_)
    | with_reducible refine Pr_bS (fun x => x.2) ?_ (fun x hx => ?_)
    | with_reducible refine Pr_bS (fun x => x.2.2) ?_ (fun x hx => ?_)
    | with_reducible refine Pr_bS (fun x => x.2.2.2) ?_ (fun x hx => ?_)
    | with_reducible refine Pr_bS (fun x => x.2.2.2.2) ?_ (fun x hx => ?_)
    | with_reducible refine Pr_bS (fun _ => M) ?_ (fun x hx => ?_)
    | with_reducible refine Pr_lp (fun x => x) (fun x hx => ?_) _ _ ?_
    | with_reducible refine Pr_lp (fun x => x.2) (fun x hx => ?_) _ _ ?_
    | with_reducible refine Pr_lp (fun x => x.2.2) (fun x hx => ?_) _ _ ?_
    | with_reducible refine Pr_lp (fun x => x.2.2.2) (fun x hx => ?_) _ _ ?_
    | with_reducible refine Pr_lp (fun x => x.2.2.2.2) (fun x hx => ?_) _ _ ?_
    | with_reducible refine Pr_lp (fun _ => M) (fun x hx => ?_) _ _ ?_
    | with_reducible refine Pr_bind (fun x => x) ?_ (fun x hx => ?_)
    | with_reducible refine Pr_bind (fun x => x.2) ?_ (fun x hx => ?_)
    | with_reducible refine Pr_bind (fun x => x.2.2) ?_ (fun x hx => ?_)
    | with_reducible refine Pr_bind (fun x => x.2.2.2) ?_ (fun x hx => ?_)
    | with_reducible refine Pr_bind (fun x => x.2.2.2.2) ?_ (fun x hx => ?_)
    | with_reducible refine Pr_bindN (fun x => ?_)
    | with_reducible refine Ag.up ?_ (by unfold PM; omega)
    | with_reducible refine Ag.cp ?_ (by unfold PM; omega)
    | assumption
    | exact Ag.rf
theorem fr_X12_loses {M m : MM} {p1 : Int} {p2 : Int} (h : Ag PM m M) : Pr PM M (fun (y : Int × MM) => y.2) (f_X12_loses m p1 p2) := by
  unfold f_X12_loses
  repeat' first
    | with_reducible refine Pr_some ?_
    | with_reducible refine fr_X12_layNames ?_
    | with_reducible refine fr_X12_boundLaw ?_
    | with_reducible refine Pr_gd ?_
    | with_reducible refine Pr_ite ?_ ?_
    | with_reducible refine Pr_bM ?_ (fun m hm => ?_)
    | with_reducible refine Pr_bI (fun x => ?_)
    | with_reducible refine Pr_gH (fun b hb => ?_)
    | with_reducible refine Pr_bS (fun x => x) ?_ (fun x hx => ?_)
    | with_reducible refine Pr_bS (fun x => x.2) ?_ (fun x hx => ?_)
    | with_reducible refine Pr_bS (fun x => x.2.2) ?_ (fun x hx => ?_)
    | with_reducible refine Pr_bS (fun x => x.2.2.2) ?_ (fun x hx => ?_)
    | with_reducible refine Pr_bS (fun x => x.2.2.2.2) ?_ (fun x hx => ?_)
    | with_reducible refine Pr_bS (fun _ => M) ?_ (fun x hx => ?_)
    | with_reducible refine Pr_lp (fun x => x) (fun x hx => ?_) _ _ ?_
    | with_reducible refine Pr_lp (fun x => x.2) (fun x hx => ?_) _ _ ?_
    | with_reducible refine Pr_lp (fun x => x.2.2) (fun x hx => ?_) _ _ ?_
    | with_reducible refine Pr_lp (fun x => x.2.2.2) (fun x hx => ?_) _ _ ?_
    | with_reducible refine Pr_lp (fun x => x.2.2.2.2) (fun x hx => ?_) _ _ ?_
    | with_reducible refine Pr_lp (fun _ => M) (fun x hx => ?_) _ _ ?_
    | with_reducible refine Pr_bind (fun x => x) ?_ (fun x hx => ?_)
    | with_reducible refine Pr_bind (fun x => x.2) ?_ (fun x hx => ?_)
    | with_reducible refine Pr_bind (fun x => x.2.2) ?_ (fun x hx => ?_)
    | with_reducible refine Pr_bind (fun x => x.2.2.2) ?_ (fun x hx => ?_)
    | with_reducible refine Pr_bind (fun x => x.2.2.2.2) ?_ (fun x hx => ?_)
    | with_reducible refine Pr_bindN (fun x => ?_)
    | with_reducible refine Ag.up ?_ (by unfold PM; omega)
    | with_reducible refine Ag.cp ?_ (by unfold PM; omega)
    | assumption
    | exact Ag.rf
theorem fr_X12_turnOf {M m : MM} {p1 : Int} {p2 : Int} (h : Ag PM m M) : Pr PM M (fun (y : Int × MM) => y.2) (f_X12_turnOf m p1 p2) := by
  unfold f_X12_turnOf
  repeat' first
    | with_reducible refine Pr_some ?_
    | with_reducible refine fr_X12_layNames ?_
    | with_reducible refine fr_X12_boundLaw ?_
    | with_reducible refine Pr_gd ?_
    | with_reducible refine Pr_ite ?_ ?_
    | with_reducible refine Pr_bM ?_ (fun m hm => ?_)
    | with_reducible refine Pr_bI (fun x => ?_)
    | with_reducible refine Pr_gH (fun b hb => ?_)
    | with_reducible refine Pr_bS (fun x => x) ?_ (fun x hx => ?_)
    | with_reducible refine Pr_bS (fun x => x.2) ?_ (fun x hx => ?_)
    | with_reducible refine Pr_bS (fun x => x.2.2) ?_ (fun x hx => ?_)
    | with_reducible refine Pr_bS (fun x => x.2.2.2) ?_ (fun x hx => ?_)
    | with_reducible refine Pr_bS (fun x => x.2.2.2.2) ?_ (fun x hx => ?_)
    | with_reducible refine Pr_bS (fun _ => M) ?_ (fun x hx => ?_)
    | with_reducible refine Pr_lp (fun x => x) (fun x hx => ?_) _ _ ?_
    | with_reducible refine Pr_lp (fun x => x.2) (fun x hx => ?_) _ _ ?_
    | with_reducible refine Pr_lp (fun x => x.2.2) (fun x hx => ?_) _ _ ?_
    | with_reducible refine Pr_lp (fun x => x.2.2.2) (fun x hx => ?_) _ _ ?_
    | with_reducible refine Pr_lp (fun x => x.2.2.2.2) (fun x hx => ?_) _ _ ?_
    | with_reducible refine Pr_lp (fun _ => M) (fun x hx => ?_) _ _ ?_
    | with_reducible refine Pr_bind (fun x => x) ?_ (fun x hx => ?_)
    | with_reducible refine Pr_bind (fun x => x.2) ?_ (fun x hx => ?_)
    | with_reducible refine Pr_bind (fun x => x.2.2) ?_ (fun x hx => ?_)
    | with_reducible refine Pr_bind (fun x => x.2.2.2) ?_ (fun x hx => ?_)
    | with_reducible refine Pr_bind (fun x => x.2.2.2.2) ?_ (fun x hx => ?_)
    | with_reducible refine Pr_bindN (fun x => ?_)
    | with_reducible refine Ag.up ?_ (by unfold PM; omega)
    | with_reducible refine Ag.cp ?_ (by unfold PM; omega)
    | assumption
    | exact Ag.rf
theorem fr_X12_crossOf {M m : MM} {p1 : Int} {p2 : Int} (h : Ag PM m M) : Pr PM M (fun (y : Int × MM) => y.2) (f_X12_crossOf m p1 p2) := by
  unfold f_X12_crossOf
  repeat' first
    | with_reducible refine Pr_some ?_
    | with_reducible refine fr_X12_layNames ?_
    | with_reducible refine fr_X12_boundLaw ?_
    | with_reducible refine Pr_gd ?_
    | with_reducible refine Pr_ite ?_ ?_
    | with_reducible refine Pr_bM ?_ (fun m hm => ?_)
    | with_reducible refine Pr_bI (fun x => ?_)
    | with_reducible refine Pr_gH (fun b hb => ?_)
    | with_reducible refine Pr_bS (fun x => x) ?_ (fun x hx => ?_)
    | with_reducible refine Pr_bS (fun x => x.2) ?_ (fun x hx => ?_)
    | with_reducible refine Pr_bS (fun x => x.2.2) ?_ (fun x hx => ?_)
    | with_reducible refine Pr_bS (fun x => x.2.2.2) ?_ (fun x hx => ?_)
    | with_reducible refine Pr_bS (fun x => x.2.2.2.2) ?_ (fun x hx => ?_)
    | with_reducible refine Pr_bS (fun _ => M) ?_ (fun x hx => ?_)
    | with_reducible refine Pr_lp (fun x => x) (fun x hx => ?_) _ _ ?_
    | with_reducible refine Pr_lp (fun x => x.2) (fun x hx => ?_) _ _ ?_
    | with_reducible refine Pr_lp (fun x => x.2.2) (fun x hx => ?_) _ _ ?_
    | with_reducible refine Pr_lp (fun x => x.2.2.2) (fun x hx => ?_) _ _ ?_
    | with_reducible refine Pr_lp (fun x => x.2.2.2.2) (fun x hx => ?_) _ _ ?_
    | with_reducible refine Pr_lp (fun _ => M) (fun x hx => ?_) _ _ ?_
    | with_reducible refine Pr_bind (fun x => x) ?_ (fun x hx => ?_)
    | with_reducible refine Pr_bind (fun x => x.2) ?_ (fun x hx => ?_)
    | with_reducible refine Pr_bind (fun x => x.2.2) ?_ (fun x hx => ?_)
    | with_reducible refine Pr_bind (fun x => x.2.2.2) ?_ (fun x hx => ?_)
    | with_reducible refine Pr_bind (fun x => x.2.2.2.2) ?_ (fun x hx => ?_)
    | with_reducible refine Pr_bindN (fun x => ?_)
    | with_reducible refine Ag.up ?_ (by unfold PM; omega)
    | with_reducible refine Ag.cp ?_ (by unfold PM; omega)
    | assumption
    | exact Ag.rf
theorem fr_X12_turned {M m : MM} {p1 : Int} {p2 : Int} {p3 : Int} (h : Ag PM m M) : Pr PM M (fun (y : MM) => y) (f_X12_turned m p1 p2 p3) := by
  unfold f_X12_turned
  repeat' first
    | with_reducible refine Pr_some ?_
    | with_reducible refine Pr_gd ?_
    | with_reducible refine Pr_ite ?_ ?_
    | with_reducible refine Pr_bM ?_ (fun m hm => ?_)
    | with_reducible refine Pr_bI (fun x => ?_)
    | with_reducible refine Pr_gH (fun b hb => ?_)
    | with_reducible refine Pr_bS (fun x => x) ?_ (fun x hx => ?_)
    | with_reducible refine Pr_bS (fun x => x.2) ?_ (fun x hx => ?_)
    | with_reducible refine Pr_bS (fun x => x.2.2) ?_ (fun x hx => ?_)
    | with_reducible refine Pr_bS (fun x => x.2.2.2) ?_ (fun x hx => ?_)
    | with_reducible refine Pr_bS (fun x => x.2.2.2.2) ?_ (fun x hx => ?_)
    | with_reducible refine Pr_bS (fun _ => M) ?_ (fun x hx => ?_)
    | with_reducible refine Pr_lp (fun x => x) (fun x hx => ?_) _ _ ?_
    | with_reducible refine Pr_lp (fun x => x.2) (fun x hx => ?_) _ _ ?_
    | with_reducible refine Pr_lp (fun x => x.2.2) (fun x hx => ?_) _ _ ?_
    | with_reducible refine Pr_lp (fun x => x.2.2.2) (fun x hx => ?_) _ _ ?_
    | with_reducible refine Pr_lp (fun x => x.2.2.2.2) (fun x hx => ?_) _ _ ?_
    | with_reducible refine Pr_lp (fun _ => M) (fun x hx => ?_) _ _ ?_
    | with_reducible refine Pr_bind (fun x => x) ?_ (fun x hx => ?_)
    | with_reducible refine Pr_bind (fun x => x.2) ?_ (fun x hx => ?_)
    | with_reducible refine Pr_bind (fun x => x.2.2) ?_ (fun x hx => ?_)
    | with_reducible refine Pr_bind (fun x => x.2.2.2) ?_ (fun x hx => ?_)
    | with_reducible refine Pr_bind (fun x => x.2.2.2.2) ?_ (fun x hx => ?_)
    | with_reducible refine Pr_bindN (fun x => ?_)
    | with_reducible refine Ag.up ?_ (by unfold PM; omega)
    | with_reducible refine Ag.cp ?_ (by unfold PM; omega)
    | assumption
    | exact Ag.rf
theorem fr_X12_goOn {M m : MM} {p1 : Int} (h : Ag PM m M) : Pr PM M (fun (y : MM) => y) (f_X12_goOn m p1) := by
  unfold f_X12_goOn
  repeat' first
    | with_reducible refine Pr_some ?_
    | with_reducible refine fr_X12_loses ?_
    | with_reducible refine fr_X12_turnOf ?_
    | with_reducible refine fr_X12_turned ?_
    | with_reducible refine fr_X12_crossOf ?_
    | with_reducible refine Pr_gd ?_
    | with_reducible refine Pr_ite ?_ ?_
    | with_reducible refine Pr_bM ?_ (fun m hm => ?_)
    | with_reducible refine Pr_bI (fun x => ?_)
    | with_reducible refine Pr_gH (fun b hb => ?_)
    | with_reducible refine Pr_bS (fun x => x) ?_ (fun x hx => ?_)
    | with_reducible refine Pr_bS (fun x => x.2) ?_ (fun x hx => ?_)
    | with_reducible refine Pr_bS (fun x => x.2.2) ?_ (fun x hx => ?_)
    | with_reducible refine Pr_bS (fun x => x.2.2.2) ?_ (fun x hx => ?_)
    | with_reducible refine Pr_bS (fun x => x.2.2.2.2) ?_ (fun x hx => ?_)
    | with_reducible refine Pr_bS (fun _ => M) ?_ (fun x hx => ?_)
    | with_reducible refine Pr_lp (fun x => x) (fun x hx => ?_) _ _ ?_
    | with_reducible refine Pr_lp (fun x => x.2) (fun x hx => ?_) _ _ ?_
    | with_reducible refine Pr_lp (fun x => x.2.2) (fun x hx => ?_) _ _ ?_
    | with_reducible refine Pr_lp (fun x => x.2.2.2) (fun x hx => ?_) _ _ ?_
    | with_reducible refine Pr_lp (fun x => x.2.2.2.2) (fun x hx => ?_) _ _ ?_
    | with_reducible refine Pr_lp (fun _ => M) (fun x hx => ?_) _ _ ?_
    | with_reducible refine Pr_bind (fun x => x) ?_ (fun x hx => ?_)
    | with_reducible refine Pr_bind (fun x => x.2) ?_ (fun x hx => ?_)
    | with_reducible refine Pr_bind (fun x => x.2.2) ?_ (fun x hx => ?_)
    | with_reducible refine Pr_bind (fun x => x.2.2.2) ?_ (fun x hx => ?_)
    | with_reducible refine Pr_bind (fun x => x.2.2.2.2) ?_ (fun x hx => ?_)
    | with_reducible refine Pr_bindN (fun x => ?_)
    | with_reducible refine Ag.up ?_ (by unfold PM; omega)
    | with_reducible refine Ag.cp ?_ (by unfold PM; omega)
    | assumption
    | exact Ag.rf
theorem fr_X12_goMany {M m : MM} {p1 : Int} (h : Ag PM m M) : Pr PM M (fun (y : MM) => y) (f_X12_goMany m p1) := by
  unfold f_X12_goMany
  repeat' first
    | with_reducible refine Pr_some ?_
    | with_reducible refine fr_X12_goOn ?_
    | with_reducible refine Pr_gd ?_
    | with_reducible refine Pr_ite ?_ ?_
    | with_reducible refine Pr_bM ?_ (fun m hm => ?_)
    | with_reducible refine Pr_bI (fun x => ?_)
    | with_reducible refine Pr_gH (fun b hb => ?_)
    | with_reducible refine Pr_bS (fun x => x) ?_ (fun x hx => ?_)
    | with_reducible refine Pr_bS (fun x => x.2) ?_ (fun x hx => ?_)
    | with_reducible refine Pr_bS (fun x => x.2.2) ?_ (fun x hx => ?_)
    | with_reducible refine Pr_bS (fun x => x.2.2.2) ?_ (fun x hx => ?_)
    | with_reducible refine Pr_bS (fun x => x.2.2.2.2) ?_ (fun x hx => ?_)
    | with_reducible refine Pr_bS (fun _ => M) ?_ (fun x hx => ?_)
    | with_reducible refine Pr_lp (fun x => x) (fun x hx => ?_) _ _ ?_
    | with_reducible refine Pr_lp (fun x => x.2) (fun x hx => ?_) _ _ ?_
    | with_reducible refine Pr_lp (fun x => x.2.2) (fun x hx => ?_) _ _ ?_
    | with_reducible refine Pr_lp (fun x => x.2.2.2) (fun x hx => ?_) _ _ ?_
    | with_reducible refine Pr_lp (fun x => x.2.2.2.2) (fun x hx => ?_) _ _ ?_
    | with_reducible refine Pr_lp (fun _ => M) (fun x hx => ?_) _ _ ?_
    | with_reducible refine Pr_bind (fun x => x) ?_ (fun x hx => ?_)
    | with_reducible refine Pr_bind (fun x => x.2) ?_ (fun x hx => ?_)
    | with_reducible refine Pr_bind (fun x => x.2.2) ?_ (fun x hx => ?_)
    | with_reducible refine Pr_bind (fun x => x.2.2.2) ?_ (fun x hx => ?_)
    | with_reducible refine Pr_bind (fun x => x.2.2.2.2) ?_ (fun x hx => ?_)
    | with_reducible refine Pr_bindN (fun x => ?_)
    | with_reducible refine Ag.up ?_ (by unfold PM; omega)
    | with_reducible refine Ag.cp ?_ (by unfold PM; omega)
    | assumption
    | exact Ag.rf
theorem fr_X12_fails {M m : MM} {p1 : Int} (h : Ag PM m M) : Pr PM M (fun (y : Int × MM) => y.2) (f_X12_fails m p1) := by
  unfold f_X12_fails
  repeat' first
    | with_reducible refine Pr_some ?_
    | with_reducible refine Pr_gd ?_
    | with_reducible refine Pr_ite ?_ ?_
    | with_reducible refine Pr_bM ?_ (fun m hm => ?_)
    | with_reducible refine Pr_bI (fun x => ?_)
    | with_reducible refine Pr_gH (fun b hb => ?_)
    | with_reducible refine Pr_bS (fun x => x) ?_ (fun x hx => ?_)
    | with_reducible refine Pr_bS (fun x => x.2) ?_ (fun x hx => ?_)
    | with_reducible refine Pr_bS (fun x => x.2.2) ?_ (fun x hx => ?_)
    | with_reducible refine Pr_bS (fun x => x.2.2.2) ?_ (fun x hx => ?_)
    | with_reducible refine Pr_bS (fun x => x.2.2.2.2) ?_ (fun x hx => ?_)
    | with_reducible refine Pr_bS (fun _ => M) ?_ (fun x hx => ?_)
    | with_reducible refine Pr_lp (fun x => x) (fun x hx => ?_) _ _ ?_
    | with_reducible refine Pr_lp (fun x => x.2) (fun x hx => ?_) _ _ ?_
    | with_reducible refine Pr_lp (fun x => x.2.2) (fun x hx => ?_) _ _ ?_
    | with_reducible refine Pr_lp (fun x => x.2.2.2) (fun x hx => ?_) _ _ ?_
    | with_reducible refine Pr_lp (fun x => x.2.2.2.2) (fun x hx => ?_) _ _ ?_
    | with_reducible refine Pr_lp (fun _ => M) (fun x hx => ?_) _ _ ?_
    | with_reducible refine Pr_bind (fun x => x) ?_ (fun x hx => ?_)
    | with_reducible refine Pr_bind (fun x => x.2) ?_ (fun x hx => ?_)
    | with_reducible refine Pr_bind (fun x => x.2.2) ?_ (fun x hx => ?_)
    | with_reducible refine Pr_bind (fun x => x.2.2.2) ?_ (fun x hx => ?_)
    | with_reducible refine Pr_bind (fun x => x.2.2.2.2) ?_ (fun x hx => ?_)
    | with_reducible refine Pr_bindN (fun x => ?_)
    | with_reducible refine Ag.up ?_ (by unfold PM; omega)
    | with_reducible refine Ag.cp ?_ (by unfold PM; omega)
    | assumption
    | exact Ag.rf
theorem fr_X12_person {M m : MM} {p1 : Int} {p2 : Int} (h : Ag PM m M) : Pr PM M (fun (y : Int × MM) => y.2) (f_X12_person m p1 p2) := by
  unfold f_X12_person
  repeat' first
    | with_reducible refine Pr_some ?_
    | with_reducible refine fr_X12_fails ?_
    | with_reducible refine fr_X12_plainTried ?_
    | with_reducible refine Pr_gd ?_
    | with_reducible refine Pr_ite ?_ ?_
    | with_reducible refine Pr_bM ?_ (fun m hm => ?_)
    | with_reducible refine Pr_bI (fun x => ?_)
    | with_reducible refine Pr_gH (fun b hb => ?_)
    | with_reducible refine Pr_bS (fun x => x) ?_ (fun x hx => ?_)
    | with_reducible refine Pr_bS (fun x => x.2) ?_ (fun x hx => ?_)
    | with_reducible refine Pr_bS (fun x => x.2.2) ?_ (fun x hx => ?_)
    | with_reducible refine Pr_bS (fun x => x.2.2.2) ?_ (fun x hx => ?_)
    | with_reducible refine Pr_bS (fun x => x.2.2.2.2) ?_ (fun x hx => ?_)
    | with_reducible refine Pr_bS (fun _ => M) ?_ (fun x hx => ?_)
    | with_reducible refine Pr_lp (fun x => x) (fun x hx => ?_) _ _ ?_
    | with_reducible refine Pr_lp (fun x => x.2) (fun x hx => ?_) _ _ ?_
    | with_reducible refine Pr_lp (fun x => x.2.2) (fun x hx => ?_) _ _ ?_
    | with_reducible refine Pr_lp (fun x => x.2.2.2) (fun x hx => ?_) _ _ ?_
    | with_reducible refine Pr_lp (fun x => x.2.2.2.2) (fun x hx => ?_) _ _ ?_
    | with_reducible refine Pr_lp (fun _ => M) (fun x hx => ?_) _ _ ?_
    | with_reducible refine Pr_bind (fun x => x) ?_ (fun x hx => ?_)
    | with_reducible refine Pr_bind (fun x => x.2) ?_ (fun x hx => ?_)
    | with_reducible refine Pr_bind (fun x => x.2.2) ?_ (fun x hx => ?_)
    | with_reducible refine Pr_bind (fun x => x.2.2.2) ?_ (fun x hx => ?_)
    | with_reducible refine Pr_bind (fun x => x.2.2.2.2) ?_ (fun x hx => ?_)
    | with_reducible refine Pr_bindN (fun x => ?_)
    | with_reducible refine Ag.up ?_ (by unfold PM; omega)
    | with_reducible refine Ag.cp ?_ (by unfold PM; omega)
    | assumption
    | exact Ag.rf
theorem fr_X12_room {M m : MM} {p1 : Int} {p2 : Int} (h : Ag PM m M) : Pr PM M (fun (y : Int × MM) => y.2) (f_X12_room m p1 p2) := by
  unfold f_X12_room
  repeat' first
    | with_reducible refine Pr_some ?_
    | with_reducible refine fr_X12_plainTried ?_
    | with_reducible refine Pr_gd ?_
    | with_reducible refine Pr_ite ?_ ?_
    | with_reducible refine Pr_bM ?_ (fun m hm => ?_)
    | with_reducible refine Pr_bI (fun x => ?_)
    | with_reducible refine Pr_gH (fun b hb => ?_)
    | with_reducible refine Pr_bS (fun x => x) ?_ (fun x hx => ?_)
    | with_reducible refine Pr_bS (fun x => x.2) ?_ (fun x hx => ?_)
    | with_reducible refine Pr_bS (fun x => x.2.2) ?_ (fun x hx => ?_)
    | with_reducible refine Pr_bS (fun x => x.2.2.2) ?_ (fun x hx => ?_)
    | with_reducible refine Pr_bS (fun x => x.2.2.2.2) ?_ (fun x hx => ?_)
    | with_reducible refine Pr_bS (fun _ => M) ?_ (fun x hx => ?_)
    | with_reducible refine Pr_lp (fun x => x) (fun x hx => ?_) _ _ ?_
    | with_reducible refine Pr_lp (fun x => x.2) (fun x hx => ?_) _ _ ?_
    | with_reducible refine Pr_lp (fun x => x.2.2) (fun x hx => ?_) _ _ ?_
    | with_reducible refine Pr_lp (fun x => x.2.2.2) (fun x hx => ?_) _ _ ?_
    | with_reducible refine Pr_lp (fun x => x.2.2.2.2) (fun x hx => ?_) _ _ ?_
    | with_reducible refine Pr_lp (fun _ => M) (fun x hx => ?_) _ _ ?_
    | with_reducible refine Pr_bind (fun x => x) ?_ (fun x hx => ?_)
    | with_reducible refine Pr_bind (fun x => x.2) ?_ (fun x hx => ?_)
    | with_reducible refine Pr_bind (fun x => x.2.2) ?_ (fun x hx => ?_)
    | with_reducible refine Pr_bind (fun x => x.2.2.2) ?_ (fun x hx => ?_)
    | with_reducible refine Pr_bind (fun x => x.2.2.2.2) ?_ (fun x hx => ?_)
    | with_reducible refine Pr_bindN (fun x => ?_)
    | with_reducible refine Ag.up ?_ (by unfold PM; omega)
    | with_reducible refine Ag.cp ?_ (by unfold PM; omega)
    | assumption
    | exact Ag.rf
theorem fr_X12_out {M m : MM} {p1 : Int} (h : Ag PM m M) : Pr PM M (fun (y : Int × MM) => y.2) (f_X12_out m p1) := by
  unfold f_X12_out
  repeat' first
    | with_reducible refine Pr_some ?_
    | with_reducible refine fr_X12_plainTried ?_
    | with_reducible refine Pr_gd ?_
    | with_reducible refine Pr_ite ?_ ?_
    | with_reducible refine Pr_bM ?_ (fun m hm => ?_)
    | with_reducible refine Pr_bI (fun x => ?_)
    | with_reducible refine Pr_gH (fun b hb => ?_)
    | with_reducible refine Pr_bS (fun x => x) ?_ (fun x hx => ?_)
    | with_reducible refine Pr_bS (fun x => x.2) ?_ (fun x hx => ?_)
    | with_reducible refine Pr_bS (fun x => x.2.2) ?_ (fun x hx => ?_)
    | with_reducible refine Pr_bS (fun x => x.2.2.2) ?_ (fun x hx => ?_)
    | with_reducible refine Pr_bS (fun x => x.2.2.2.2) ?_ (fun x hx => ?_)
    | with_reducible refine Pr_bS (fun _ => M) ?_ (fun x hx => ?_)
    | with_reducible refine Pr_lp (fun x => x) (fun x hx => ?_) _ _ ?_
    | with_reducible refine Pr_lp (fun x => x.2) (fun x hx => ?_) _ _ ?_
    | with_reducible refine Pr_lp (fun x => x.2.2) (fun x hx => ?_) _ _ ?_
    | with_reducible refine Pr_lp (fun x => x.2.2.2) (fun x hx => ?_) _ _ ?_
    | with_reducible refine Pr_lp (fun x => x.2.2.2.2) (fun x hx => ?_) _ _ ?_
    | with_reducible refine Pr_lp (fun _ => M) (fun x hx => ?_) _ _ ?_
    | with_reducible refine Pr_bind (fun x => x) ?_ (fun x hx => ?_)
    | with_reducible refine Pr_bind (fun x => x.2) ?_ (fun x hx => ?_)
    | with_reducible refine Pr_bind (fun x => x.2.2) ?_ (fun x hx => ?_)
    | with_reducible refine Pr_bind (fun x => x.2.2.2) ?_ (fun x hx => ?_)
    | with_reducible refine Pr_bind (fun x => x.2.2.2.2) ?_ (fun x hx => ?_)
    | with_reducible refine Pr_bindN (fun x => ?_)
    | with_reducible refine Ag.up ?_ (by unfold PM; omega)
    | with_reducible refine Ag.cp ?_ (by unfold PM; omega)
    | assumption
    | exact Ag.rf
theorem fr_X12_law {M m : MM} {p1 : Int} {p2 : Int} (h : Ag PM m M) : Pr PM M (fun (y : Int × MM) => y.2) (f_X12_law m p1 p2) := by
  unfold f_X12_law
  repeat' first
    | with_reducible refine Pr_some ?_
    | with_reducible refine fr_X12_plainTried ?_
    | with_reducible refine fr_X12_layNames ?_
    | with_reducible refine fr_X12_lawOf ?_
    | with_reducible refine Pr_gd ?_
    | with_reducible refine Pr_ite ?_ ?_
    | with_reducible refine Pr_bM ?_ (fun m hm => ?_)
    | with_reducible refine Pr_bI (fun x => ?_)
    | with_reducible refine Pr_gH (fun b hb => ?_)
    | with_reducible refine Pr_bS (fun x => x) ?_ (fun x hx => ?_)
    | with_reducible refine Pr_bS (fun x => x.2) ?_ (fun x hx => ?_)
    | with_reducible refine Pr_bS (fun x => x.2.2) ?_ (fun x hx => ?_)
    | with_reducible refine Pr_bS (fun x => x.2.2.2) ?_ (fun x hx => ?_)
    | with_reducible refine Pr_bS (fun x => x.2.2.2.2) ?_ (fun x hx => ?_)
    | with_reducible refine Pr_bS (fun _ => M) ?_ (fun x hx => ?_)
    | with_reducible refine Pr_lp (fun x => x) (fun x hx => ?_) _ _ ?_
    | with_reducible refine Pr_lp (fun x => x.2) (fun x hx => ?_) _ _ ?_
    | with_reducible refine Pr_lp (fun x => x.2.2) (fun x hx => ?_) _ _ ?_
    | with_reducible refine Pr_lp (fun x => x.2.2.2) (fun x hx => ?_) _ _ ?_
    | with_reducible refine Pr_lp (fun x => x.2.2.2.2) (fun x hx => ?_) _ _ ?_
    | with_reducible refine Pr_lp (fun _ => M) (fun x hx => ?_) _ _ ?_
    | with_reducible refine Pr_bind (fun x => x) ?_ (fun x hx => ?_)
    | with_reducible refine Pr_bind (fun x => x.2) ?_ (fun x hx => ?_)
    | with_reducible refine Pr_bind (fun x => x.2.2) ?_ (fun x hx => ?_)
    | with_reducible refine Pr_bind (fun x => x.2.2.2) ?_ (fun x hx => ?_)
    | with_reducible refine Pr_bind (fun x => x.2.2.2.2) ?_ (fun x hx => ?_)
    | with_reducible refine Pr_bindN (fun x => ?_)
    | with_reducible refine Ag.up ?_ (by unfold PM; omega)
    | with_reducible refine Ag.cp ?_ (by unfold PM; omega)
    | assumption
    | exact Ag.rf
theorem fr_X12_put {M m : MM} {a1 n1 : Nat} {p2 : Int} (h : Ag PM m M) (ha1 : 88 ≤ a1 ∧ a1 < 139) : Pr PM M (fun (y : MM) => y) (f_X12_put m a1 n1 p2) := by
  unfold f_X12_put
  repeat' first
    | with_reducible refine Pr_some ?_
    | with_reducible refine Pr_gd ?_
    | with_reducible refine Pr_ite ?_ ?_
    | with_reducible refine Pr_bM ?_ (fun m hm => ?_)
    | with_reducible refine Pr_bI (fun x => ?_)
    | with_reducible refine Pr_gH (fun b hb => ?_)
    | with_reducible refine Pr_bS (fun x => x) ?_ (fun x hx => ?_)
    | with_reducible refine Pr_bS (fun x => x.2) ?_ (fun x hx => ?_)
    | with_reducible refine Pr_bS (fun x => x.2.2) ?_ (fun x hx => ?_)
    | with_reducible refine Pr_bS (fun x => x.2.2.2) ?_ (fun x hx => ?_)
    | with_reducible refine Pr_bS (fun x => x.2.2.2.2) ?_ (fun x hx => ?_)
    | with_reducible refine Pr_bS (fun _ => M) ?_ (fun x hx => ?_)
    | with_reducible refine Pr_lp (fun x => x) (fun x hx => ?_) _ _ ?_
    | with_reducible refine Pr_lp (fun x => x.2) (fun x hx => ?_) _ _ ?_
    | with_reducible refine Pr_lp (fun x => x.2.2) (fun x hx => ?_) _ _ ?_
    | with_reducible refine Pr_lp (fun x => x.2.2.2) (fun x hx => ?_) _ _ ?_
    | with_reducible refine Pr_lp (fun x => x.2.2.2.2) (fun x hx => ?_) _ _ ?_
    | with_reducible refine Pr_lp (fun _ => M) (fun x hx => ?_) _ _ ?_
    | with_reducible refine Pr_bind (fun x => x) ?_ (fun x hx => ?_)
    | with_reducible refine Pr_bind (fun x => x.2) ?_ (fun x hx => ?_)
    | with_reducible refine Pr_bind (fun x => x.2.2) ?_ (fun x hx => ?_)
    | with_reducible refine Pr_bind (fun x => x.2.2.2) ?_ (fun x hx => ?_)
    | with_reducible refine Pr_bind (fun x => x.2.2.2.2) ?_ (fun x hx => ?_)
    | with_reducible refine Pr_bindN (fun x => ?_)
    | with_reducible refine Ag.up ?_ (by unfold PM; omega)
    | with_reducible refine Ag.cp ?_ (by unfold PM; omega)
    | assumption
    | exact Ag.rf
theorem fr_X12_remember {M m : MM}  (h : Ag PM m M) : Pr PM M (fun (y : MM) => y) (f_X12_remember m) := by
  unfold f_X12_remember
  repeat' first
    | with_reducible refine Pr_some ?_
    | with_reducible refine fr_X12_put ?_ (by omega)
    | with_reducible refine Pr_gd ?_
    | with_reducible refine Pr_ite ?_ ?_
    | with_reducible refine Pr_bM ?_ (fun m hm => ?_)
    | with_reducible refine Pr_bI (fun x => ?_)
    | with_reducible refine Pr_gH (fun b hb => ?_)
    | with_reducible refine Pr_bS (fun x => x) ?_ (fun x hx => ?_)
    | with_reducible refine Pr_bS (fun x => x.2) ?_ (fun x hx => ?_)
    | with_reducible refine Pr_bS (fun x => x.2.2) ?_ (fun x hx => ?_)
    | with_reducible refine Pr_bS (fun x => x.2.2.2) ?_ (fun x hx => ?_)
    | with_reducible refine Pr_bS (fun x => x.2.2.2.2) ?_ (fun x hx => ?_)
    | with_reducible refine Pr_bS (fun _ => M) ?_ (fun x hx => ?_)
    | with_reducible refine Pr_lp (fun x => x) (fun x hx => ?_) _ _ ?_
    | with_reducible refine Pr_lp (fun x => x.2) (fun x hx => ?_) _ _ ?_
    | with_reducible refine Pr_lp (fun x => x.2.2) (fun x hx => ?_) _ _ ?_
    | with_reducible refine Pr_lp (fun x => x.2.2.2) (fun x hx => ?_) _ _ ?_
    | with_reducible refine Pr_lp (fun x => x.2.2.2.2) (fun x hx => ?_) _ _ ?_
    | with_reducible refine Pr_lp (fun _ => M) (fun x hx => ?_) _ _ ?_
    | with_reducible refine Pr_bind (fun x => x) ?_ (fun x hx => ?_)
    | with_reducible refine Pr_bind (fun x => x.2) ?_ (fun x hx => ?_)
    | with_reducible refine Pr_bind (fun x => x.2.2) ?_ (fun x hx => ?_)
    | with_reducible refine Pr_bind (fun x => x.2.2.2) ?_ (fun x hx => ?_)
    | with_reducible refine Pr_bind (fun x => x.2.2.2.2) ?_ (fun x hx => ?_)
    | with_reducible refine Pr_bindN (fun x => ?_)
    | with_reducible refine Ag.up ?_ (by unfold PM; omega)
    | with_reducible refine Ag.cp ?_ (by unfold PM; omega)
    | assumption
    | exact Ag.rf
theorem fr_X12_set {M m : MM} {p1 : Int} (h : Ag PM m M) : Pr PM M (fun (y : Int × MM) => y.2) (f_X12_set m p1) := by
  unfold f_X12_set
  repeat' first
    | with_reducible refine Pr_some ?_
    | with_reducible refine fr_X12_remember ?_
    | with_reducible refine Pr_gd ?_
    | with_reducible refine Pr_ite ?_ ?_
    | with_reducible refine Pr_bM ?_ (fun m hm => ?_)
    | with_reducible refine Pr_bI (fun x => ?_)
    | with_reducible refine Pr_gH (fun b hb => ?_)
    | with_reducible refine Pr_bS (fun x => x) ?_ (fun x hx => ?_)
    | with_reducible refine Pr_bS (fun x => x.2) ?_ (fun x hx => ?_)
    | with_reducible refine Pr_bS (fun x => x.2.2) ?_ (fun x hx => ?_)
    | with_reducible refine Pr_bS (fun x => x.2.2.2) ?_ (fun x hx => ?_)
    | with_reducible refine Pr_bS (fun x => x.2.2.2.2) ?_ (fun x hx => ?_)
    | with_reducible refine Pr_bS (fun _ => M) ?_ (fun x hx => ?_)
    | with_reducible refine Pr_lp (fun x => x) (fun x hx => ?_) _ _ ?_
    | with_reducible refine Pr_lp (fun x => x.2) (fun x hx => ?_) _ _ ?_
    | with_reducible refine Pr_lp (fun x => x.2.2) (fun x hx => ?_) _ _ ?_
    | with_reducible refine Pr_lp (fun x => x.2.2.2) (fun x hx => ?_) _ _ ?_
    | with_reducible refine Pr_lp (fun x => x.2.2.2.2) (fun x hx => ?_) _ _ ?_
    | with_reducible refine Pr_lp (fun _ => M) (fun x hx => ?_) _ _ ?_
    | with_reducible refine Pr_bind (fun x => x) ?_ (fun x hx => ?_)
    | with_reducible refine Pr_bind (fun x => x.2) ?_ (fun x hx => ?_)
    | with_reducible refine Pr_bind (fun x => x.2.2) ?_ (fun x hx => ?_)
    | with_reducible refine Pr_bind (fun x => x.2.2.2) ?_ (fun x hx => ?_)
    | with_reducible refine Pr_bind (fun x => x.2.2.2.2) ?_ (fun x hx => ?_)
    | with_reducible refine Pr_bindN (fun x => ?_)
    | with_reducible refine Ag.up ?_ (by unfold PM; omega)
    | with_reducible refine Ag.cp ?_ (by unfold PM; omega)
    | assumption
    | exact Ag.rf
theorem fr_X12_hang {M m : MM} {p1 : Int} (h : Ag PM m M) : Pr PM M (fun (y : Int × MM) => y.2) (f_X12_hang m p1) := by
  unfold f_X12_hang
  repeat' first
    | with_reducible refine Pr_some ?_
    | with_reducible refine fr_X12_remember ?_
    | with_reducible refine Pr_gd ?_
    | with_reducible refine Pr_ite ?_ ?_
    | with_reducible refine Pr_bM ?_ (fun m hm => ?_)
    | with_reducible refine Pr_bI (fun x => ?_)
    | with_reducible refine Pr_gH (fun b hb => ?_)
    | with_reducible refine Pr_bS (fun x => x) ?_ (fun x hx => ?_)
    | with_reducible refine Pr_bS (fun x => x.2) ?_ (fun x hx => ?_)
    | with_reducible refine Pr_bS (fun x => x.2.2) ?_ (fun x hx => ?_)
    | with_reducible refine Pr_bS (fun x => x.2.2.2) ?_ (fun x hx => ?_)
    | with_reducible refine Pr_bS (fun x => x.2.2.2.2) ?_ (fun x hx => ?_)
    | with_reducible refine Pr_bS (fun _ => M) ?_ (fun x hx => ?_)
    | with_reducible refine Pr_lp (fun x => x) (fun x hx => ?_) _ _ ?_
    | with_reducible refine Pr_lp (fun x => x.2) (fun x hx => ?_) _ _ ?_
    | with_reducible refine Pr_lp (fun x => x.2.2) (fun x hx => ?_) _ _ ?_
    | with_reducible refine Pr_lp (fun x => x.2.2.2) (fun x hx => ?_) _ _ ?_
    | with_reducible refine Pr_lp (fun x => x.2.2.2.2) (fun x hx => ?_) _ _ ?_
    | with_reducible refine Pr_lp (fun _ => M) (fun x hx => ?_) _ _ ?_
    | with_reducible refine Pr_bind (fun x => x) ?_ (fun x hx => ?_)
    | with_reducible refine Pr_bind (fun x => x.2) ?_ (fun x hx => ?_)
    | with_reducible refine Pr_bind (fun x => x.2.2) ?_ (fun x hx => ?_)
    | with_reducible refine Pr_bind (fun x => x.2.2.2) ?_ (fun x hx => ?_)
    | with_reducible refine Pr_bind (fun x => x.2.2.2.2) ?_ (fun x hx => ?_)
    | with_reducible refine Pr_bindN (fun x => ?_)
    | with_reducible refine Ag.up ?_ (by unfold PM; omega)
    | with_reducible refine Ag.cp ?_ (by unfold PM; omega)
    | assumption
    | exact Ag.rf
theorem fr_X12_candle {M m : MM} {p1 : Int} (h : Ag PM m M) : Pr PM M (fun (y : Int × MM) => y.2) (f_X12_candle m p1) := by
  unfold f_X12_candle
  repeat' first
    | with_reducible refine Pr_some ?_
    | with_reducible refine fr_X12_remember ?_
    | with_reducible refine Pr_gd ?_
    | with_reducible refine Pr_ite ?_ ?_
    | with_reducible refine Pr_bM ?_ (fun m hm => ?_)
    | with_reducible refine Pr_bI (fun x => ?_)
    | with_reducible refine Pr_gH (fun b hb => ?_)
    | with_reducible refine Pr_bS (fun x => x) ?_ (fun x hx => ?_)
    | with_reducible refine Pr_bS (fun x => x.2) ?_ (fun x hx => ?_)
    | with_reducible refine Pr_bS (fun x => x.2.2) ?_ (fun x hx => ?_)
    | with_reducible refine Pr_bS (fun x => x.2.2.2) ?_ (fun x hx => ?_)
    | with_reducible refine Pr_bS (fun x => x.2.2.2.2) ?_ (fun x hx => ?_)
    | with_reducible refine Pr_bS (fun _ => M) ?_ (fun x hx => ?_)
    | with_reducible refine Pr_lp (fun x => x) (fun x hx => ?_) _ _ ?_
    | with_reducible refine Pr_lp (fun x => x.2) (fun x hx => ?_) _ _ ?_
    | with_reducible refine Pr_lp (fun x => x.2.2) (fun x hx => ?_) _ _ ?_
    | with_reducible refine Pr_lp (fun x => x.2.2.2) (fun x hx => ?_) _ _ ?_
    | with_reducible refine Pr_lp (fun x => x.2.2.2.2) (fun x hx => ?_) _ _ ?_
    | with_reducible refine Pr_lp (fun _ => M) (fun x hx => ?_) _ _ ?_
    | with_reducible refine Pr_bind (fun x => x) ?_ (fun x hx => ?_)
    | with_reducible refine Pr_bind (fun x => x.2) ?_ (fun x hx => ?_)
    | with_reducible refine Pr_bind (fun x => x.2.2) ?_ (fun x hx => ?_)
    | with_reducible refine Pr_bind (fun x => x.2.2.2) ?_ (fun x hx => ?_)
    | with_reducible refine Pr_bind (fun x => x.2.2.2.2) ?_ (fun x hx => ?_)
    | with_reducible refine Pr_bindN (fun x => ?_)
    | with_reducible refine Ag.up ?_ (by unfold PM; omega)
    | with_reducible refine Ag.cp ?_ (by unfold PM; omega)
    | assumption
    | exact Ag.rf
theorem fr_X12_jumper {M m : MM} {p1 : Int} {p2 : Int} (h : Ag PM m M) : Pr PM M (fun (y : Int × MM) => y.2) (f_X12_jumper m p1 p2) := by
  unfold f_X12_jumper
  repeat' first
    | with_reducible refine Pr_some ?_
    | with_reducible refine fr_X12_remember ?_
    | with_reducible refine Pr_gd ?_
    | with_reducible refine Pr_ite ?_ ?_
    | with_reducible refine Pr_bM ?_ (fun m hm => ?_)
    | with_reducible refine Pr_bI (fun x => ?_)
    | with_reducible refine Pr_gH (fun b hb => ?_)
    | with_reducible refine Pr_bS (fun x => x) ?_ (fun x hx => ?_)
    | with_reducible refine Pr_bS (fun x => x.2) ?_ (fun x hx => ?_)
    | with_reducible refine Pr_bS (fun x => x.2.2) ?_ (fun x hx => ?_)
    | with_reducible refine Pr_bS (fun x => x.2.2.2) ?_ (fun x hx => ?_)
    | with_reducible refine Pr_bS (fun x => x.2.2.2.2) ?_ (fun x hx => ?_)
    | with_reducible refine Pr_bS (fun _ => M) ?_ (fun x hx => ?_)
    | with_reducible refine Pr_lp (fun x => x) (fun x hx => ?_) _ _ ?_
    | with_reducible refine Pr_lp (fun x => x.2) (fun x hx => ?_) _ _ ?_
    | with_reducible refine Pr_lp (fun x => x.2.2) (fun x hx => ?_) _ _ ?_
    | with_reducible refine Pr_lp (fun x => x.2.2.2) (fun x hx => ?_) _ _ ?_
    | with_reducible refine Pr_lp (fun x => x.2.2.2.2) (fun x hx => ?_) _ _ ?_
    | with_reducible refine Pr_lp (fun _ => M) (fun x hx => ?_) _ _ ?_
    | with_reducible refine Pr_bind (fun x => x) ?_ (fun x hx => ?_)
    | with_reducible refine Pr_bind (fun x => x.2) ?_ (fun x hx => ?_)
    | with_reducible refine Pr_bind (fun x => x.2.2) ?_ (fun x hx => ?_)
    | with_reducible refine Pr_bind (fun x => x.2.2.2) ?_ (fun x hx => ?_)
    | with_reducible refine Pr_bind (fun x => x.2.2.2.2) ?_ (fun x hx => ?_)
    | with_reducible refine Pr_bindN (fun x => ?_)
    | with_reducible refine Ag.up ?_ (by unfold PM; omega)
    | with_reducible refine Ag.cp ?_ (by unfold PM; omega)
    | assumption
    | exact Ag.rf
theorem fr_X12_go {M m : MM} {p1 : Int} (h : Ag PM m M) : Pr PM M (fun (y : Int × MM) => y.2) (f_X12_go m p1) := by
  unfold f_X12_go
  repeat' first
    | with_reducible refine Pr_some ?_
    | with_reducible refine fr_X12_plainTried ?_
    | with_reducible refine fr_X12_goOn ?_
    | with_reducible refine Pr_gd ?_
    | with_reducible refine Pr_ite ?_ ?_
    | with_reducible refine Pr_bM ?_ (fun m hm => ?_)
    | with_reducible refine Pr_bI (fun x => ?_)
    | with_reducible refine Pr_gH (fun b hb => ?_)
    | with_reducible refine Pr_bS (fun x => x) ?_ (fun x hx => ?_)
    | with_reducible refine Pr_bS (fun x => x.2) ?_ (fun x hx => ?_)
    | with_reducible refine Pr_bS (fun x => x.2.2) ?_ (fun x hx => ?_)
    | with_reducible refine Pr_bS (fun x => x.2.2.2) ?_ (fun x hx => ?_)
    | with_reducible refine Pr_bS (fun x => x.2.2.2.2) ?_ (fun x hx => ?_)
    | with_reducible refine Pr_bS (fun _ => M) ?_ (fun x hx => ?_)
    | with_reducible refine Pr_lp (fun x => x) (fun x hx => ?_) _ _ ?_
    | with_reducible refine Pr_lp (fun x => x.2) (fun x hx => ?_) _ _ ?_
    | with_reducible refine Pr_lp (fun x => x.2.2) (fun x hx => ?_) _ _ ?_
    | with_reducible refine Pr_lp (fun x => x.2.2.2) (fun x hx => ?_) _ _ ?_
    | with_reducible refine Pr_lp (fun x => x.2.2.2.2) (fun x hx => ?_) _ _ ?_
    | with_reducible refine Pr_lp (fun _ => M) (fun x hx => ?_) _ _ ?_
    | with_reducible refine Pr_bind (fun x => x) ?_ (fun x hx => ?_)
    | with_reducible refine Pr_bind (fun x => x.2) ?_ (fun x hx => ?_)
    | with_reducible refine Pr_bind (fun x => x.2.2) ?_ (fun x hx => ?_)
    | with_reducible refine Pr_bind (fun x => x.2.2.2) ?_ (fun x hx => ?_)
    | with_reducible refine Pr_bind (fun x => x.2.2.2.2) ?_ (fun x hx => ?_)
    | with_reducible refine Pr_bindN (fun x => ?_)
    | with_reducible refine Ag.up ?_ (by unfold PM; omega)
    | with_reducible refine Ag.cp ?_ (by unfold PM; omega)
    | assumption
    | exact Ag.rf
theorem fr_X12_ahead {M m : MM} {p1 : Int} {p2 : Int} {p3 : Int} (h : Ag PM m M) : Pr PM M (fun (y : Int × MM) => y.2) (f_X12_ahead m p1 p2 p3) := by
  unfold f_X12_ahead
  repeat' first
    | with_reducible refine Pr_some ?_
    | with_reducible refine fr_X12_layTried ?_
    | with_reducible refine fr_X12_goMany ?_
    | with_reducible refine Pr_gd ?_
    | with_reducible refine Pr_ite ?_ ?_
    | with_reducible refine Pr_bM ?_ (fun m hm => ?_)
    | with_reducible refine Pr_bI (fun x => ?_)
    | with_reducible refine Pr_gH (fun b hb => ?_)
    | with_reducible refine Pr_bS (fun x => x) ?_ (fun x hx => ?_)
    | with_reducible refine Pr_bS (fun x => x.2) ?_ (fun x hx => ?_)
    | with_reducible refine Pr_bS (fun x => x.2.2) ?_ (fun x hx => ?_)
    | with_reducible refine Pr_bS (fun x => x.2.2.2) ?_ (fun x hx => ?_)
    | with_reducible refine Pr_bS (fun x => x.2.2.2.2) ?_ (fun x hx => ?_)
    | with_reducible refine Pr_bS (fun _ => M) ?_ (fun x hx => ?_)
    | with_reducible refine Pr_lp (fun x => x) (fun x hx => ?_) _ _ ?_
    | with_reducible refine Pr_lp (fun x => x.2) (fun x hx => ?_) _ _ ?_
    | with_reducible refine Pr_lp (fun x => x.2.2) (fun x hx => ?_) _ _ ?_
    | with_reducible refine Pr_lp (fun x => x.2.2.2) (fun x hx => ?_) _ _ ?_
    | with_reducible refine Pr_lp (fun x => x.2.2.2.2) (fun x hx => ?_) _ _ ?_
    | with_reducible refine Pr_lp (fun _ => M) (fun x hx => ?_) _ _ ?_
    | with_reducible refine Pr_bind (fun x => x) ?_ (fun x hx => ?_)
    | with_reducible refine Pr_bind (fun x => x.2) ?_ (fun x hx => ?_)
    | with_reducible refine Pr_bind (fun x => x.2.2) ?_ (fun x hx => ?_)
    | with_reducible refine Pr_bind (fun x => x.2.2.2) ?_ (fun x hx => ?_)
    | with_reducible refine Pr_bind (fun x => x.2.2.2.2) ?_ (fun x hx => ?_)
    | with_reducible refine Pr_bindN (fun x => ?_)
    | with_reducible refine Ag.up ?_ (by unfold PM; omega)
    | with_reducible refine Ag.cp ?_ (by unfold PM; omega)
    | assumption
    | exact Ag.rf
theorem fr_X12_soonBy {M m : MM} {p1 : Int} {p2 : Int} {p3 : Int} (h : Ag PM m M) : Pr PM M (fun (y : Int × MM) => y.2) (f_X12_soonBy m p1 p2 p3) := by
  unfold f_X12_soonBy
  repeat' first
    | with_reducible refine Pr_some ?_
    | with_reducible refine fr_X12_layStill ?_
    | with_reducible refine fr_X12_goOn ?_
    | with_reducible refine Pr_gd ?_
    | with_reducible refine Pr_ite ?_ ?_
    | with_reducible refine Pr_bM ?_ (fun m hm => ?_)
    | with_reducible refine Pr_bI (fun x => ?_)
    | with_reducible refine Pr_gH (fun b hb => ?_)
    | with_reducible refine Pr_bS (fun x => x) ?_ (fun x hx => ?_)
    | with_reducible refine Pr_bS (fun x => x.2) ?_ (fun x hx => ?_)
    | with_reducible refine Pr_bS (fun x => x.2.2) ?_ (fun x hx => ?_)
    | with_reducible refine Pr_bS (fun x => x.2.2.2) ?_ (fun x hx => ?_)
    | with_reducible refine Pr_bS (fun x => x.2.2.2.2) ?_ (fun x hx => ?_)
    | with_reducible refine Pr_bS (fun _ => M) ?_ (fun x hx => ?_)
    | with_reducible refine Pr_lp (fun x => x) (fun x hx => ?_) _ _ ?_
    | with_reducible refine Pr_lp (fun x => x.2) (fun x hx => ?_) _ _ ?_
    | with_reducible refine Pr_lp (fun x => x.2.2) (fun x hx => ?_) _ _ ?_
    | with_reducible refine Pr_lp (fun x => x.2.2.2) (fun x hx => ?_) _ _ ?_
    | with_reducible refine Pr_lp (fun x => x.2.2.2.2) (fun x hx => ?_) _ _ ?_
    | with_reducible refine Pr_lp (fun _ => M) (fun x hx => ?_) _ _ ?_
    | with_reducible refine Pr_bind (fun x => x) ?_ (fun x hx => ?_)
    | with_reducible refine Pr_bind (fun x => x.2) ?_ (fun x hx => ?_)
    | with_reducible refine Pr_bind (fun x => x.2.2) ?_ (fun x hx => ?_)
    | with_reducible refine Pr_bind (fun x => x.2.2.2) ?_ (fun x hx => ?_)
    | with_reducible refine Pr_bind (fun x => x.2.2.2.2) ?_ (fun x hx => ?_)
    | with_reducible refine Pr_bindN (fun x => ?_)
    | with_reducible refine Ag.up ?_ (by unfold PM; omega)
    | with_reducible refine Ag.cp ?_ (by unfold PM; omega)
    | assumption
    | exact Ag.rf
theorem fr_X12_soon {M m : MM} {p1 : Int} {p2 : Int} {p3 : Int} (h : Ag PM m M) : Pr PM M (fun (y : Int × MM) => y.2) (f_X12_soon m p1 p2 p3) := by
  unfold f_X12_soon
  repeat' first
    | with_reducible refine Pr_some ?_
    | with_reducible refine fr_X12_soonBy ?_
    | with_reducible refine Pr_gd ?_
    | with_reducible refine Pr_ite ?_ ?_
    | with_reducible refine Pr_bM ?_ (fun m hm => ?_)
    | with_reducible refine Pr_bI (fun x => ?_)
    | with_reducible refine Pr_gH (fun b hb => ?_)
    | with_reducible refine Pr_bS (fun x => x) ?_ (fun x hx => ?_)
    | with_reducible refine Pr_bS (fun x => x.2) ?_ (fun x hx => ?_)
    | with_reducible refine Pr_bS (fun x => x.2.2) ?_ (fun x hx => ?_)
    | with_reducible refine Pr_bS (fun x => x.2.2.2) ?_ (fun x hx => ?_)
    | with_reducible refine Pr_bS (fun x => x.2.2.2.2) ?_ (fun x hx => ?_)
    | with_reducible refine Pr_bS (fun _ => M) ?_ (fun x hx => ?_)
    | with_reducible refine Pr_lp (fun x => x) (fun x hx => ?_) _ _ ?_
    | with_reducible refine Pr_lp (fun x => x.2) (fun x hx => ?_) _ _ ?_
    | with_reducible refine Pr_lp (fun x => x.2.2) (fun x hx => ?_) _ _ ?_
    | with_reducible refine Pr_lp (fun x => x.2.2.2) (fun x hx => ?_) _ _ ?_
    | with_reducible refine Pr_lp (fun x => x.2.2.2.2) (fun x hx => ?_) _ _ ?_
    | with_reducible refine Pr_lp (fun _ => M) (fun x hx => ?_) _ _ ?_
    | with_reducible refine Pr_bind (fun x => x) ?_ (fun x hx => ?_)
    | with_reducible refine Pr_bind (fun x => x.2) ?_ (fun x hx => ?_)
    | with_reducible refine Pr_bind (fun x => x.2.2) ?_ (fun x hx => ?_)
    | with_reducible refine Pr_bind (fun x => x.2.2.2) ?_ (fun x hx => ?_)
    | with_reducible refine Pr_bind (fun x => x.2.2.2.2) ?_ (fun x hx => ?_)
    | with_reducible refine Pr_bindN (fun x => ?_)
    | with_reducible refine Ag.up ?_ (by unfold PM; omega)
    | with_reducible refine Ag.cp ?_ (by unfold PM; omega)
    | assumption
    | exact Ag.rf
theorem fr_X12_quicker {M m : MM} {p1 : Int} {p2 : Int} {p3 : Int} {p4 : Int} (h : Ag PM m M) : Pr PM M (fun (y : Int × MM) => y.2) (f_X12_quicker m p1 p2 p3 p4) := by
  unfold f_X12_quicker
  repeat' first
    | with_reducible refine Pr_some ?_
    | with_reducible refine fr_X12_soonBy ?_
    | with_reducible refine Pr_gd ?_
    | with_reducible refine Pr_ite ?_ ?_
    | with_reducible refine Pr_bM ?_ (fun m hm => ?_)
    | with_reducible refine Pr_bI (fun x => ?_)
    | with_reducible refine Pr_gH (fun b hb => ?_)
    | with_reducible refine Pr_bS (fun x => x) ?_ (fun x hx => ?_)
    | with_reducible refine Pr_bS (fun x => x.2) ?_ (fun x hx => ?_)
    | with_reducible refine Pr_bS (fun x => x.2.2) ?_ (fun x hx => ?_)
    | with_reducible refine Pr_bS (fun x => x.2.2.2) ?_ (fun x hx => ?_)
    | with_reducible refine Pr_bS (fun x => x.2.2.2.2) ?_ (fun x hx => ?_)
    | with_reducible refine Pr_bS (fun _ => M) ?_ (fun x hx => ?_)
    | with_reducible refine Pr_lp (fun x => x) (fun x hx => ?_) _ _ ?_
    | with_reducible refine Pr_lp (fun x => x.2) (fun x hx => ?_) _ _ ?_
    | with_reducible refine Pr_lp (fun x => x.2.2) (fun x hx => ?_) _ _ ?_
    | with_reducible refine Pr_lp (fun x => x.2.2.2) (fun x hx => ?_) _ _ ?_
    | with_reducible refine Pr_lp (fun x => x.2.2.2.2) (fun x hx => ?_) _ _ ?_
    | with_reducible refine Pr_lp (fun _ => M) (fun x hx => ?_) _ _ ?_
    | with_reducible refine Pr_bind (fun x => x) ?_ (fun x hx => ?_)
    | with_reducible refine Pr_bind (fun x => x.2) ?_ (fun x hx => ?_)
    | with_reducible refine Pr_bind (fun x => x.2.2) ?_ (fun x hx => ?_)
    | with_reducible refine Pr_bind (fun x => x.2.2.2) ?_ (fun x hx => ?_)
    | with_reducible refine Pr_bind (fun x => x.2.2.2.2) ?_ (fun x hx => ?_)
    | with_reducible refine Pr_bindN (fun x => ?_)
    | with_reducible refine Ag.up ?_ (by unfold PM; omega)
    | with_reducible refine Ag.cp ?_ (by unfold PM; omega)
    | assumption
    | exact Ag.rf
theorem fr_X12_onAgain {M m : MM} {p1 : Int} {p2 : Int} {p3 : Int} (h : Ag PM m M) : Pr PM M (fun (y : Int × MM) => y.2) (f_X12_onAgain m p1 p2 p3) := by
  unfold f_X12_onAgain
  repeat' first
    | with_reducible refine Pr_some ?_
    | with_reducible refine fr_X12_layStill ?_
    | with_reducible refine fr_X12_goMany ?_
    | with_reducible refine Pr_gd ?_
    | with_reducible refine Pr_ite ?_ ?_
    | with_reducible refine Pr_bM ?_ (fun m hm => ?_)
    | with_reducible refine Pr_bI (fun x => ?_)
    | with_reducible refine Pr_gH (fun b hb => ?_)
    | with_reducible refine Pr_bS (fun x => x) ?_ (fun x hx => ?_)
    | with_reducible refine Pr_bS (fun x => x.2) ?_ (fun x hx => ?_)
    | with_reducible refine Pr_bS (fun x => x.2.2) ?_ (fun x hx => ?_)
    | with_reducible refine Pr_bS (fun x => x.2.2.2) ?_ (fun x hx => ?_)
    | with_reducible refine Pr_bS (fun x => x.2.2.2.2) ?_ (fun x hx => ?_)
    | with_reducible refine Pr_bS (fun _ => M) ?_ (fun x hx => ?_)
    | with_reducible refine Pr_lp (fun x => x) (fun x hx => ?_) _ _ ?_
    | with_reducible refine Pr_lp (fun x => x.2) (fun x hx => ?_) _ _ ?_
    | with_reducible refine Pr_lp (fun x => x.2.2) (fun x hx => ?_) _ _ ?_
    | with_reducible refine Pr_lp (fun x => x.2.2.2) (fun x hx => ?_) _ _ ?_
    | with_reducible refine Pr_lp (fun x => x.2.2.2.2) (fun x hx => ?_) _ _ ?_
    | with_reducible refine Pr_lp (fun _ => M) (fun x hx => ?_) _ _ ?_
    | with_reducible refine Pr_bind (fun x => x) ?_ (fun x hx => ?_)
    | with_reducible refine Pr_bind (fun x => x.2) ?_ (fun x hx => ?_)
    | with_reducible refine Pr_bind (fun x => x.2.2) ?_ (fun x hx => ?_)
    | with_reducible refine Pr_bind (fun x => x.2.2.2) ?_ (fun x hx => ?_)
    | with_reducible refine Pr_bind (fun x => x.2.2.2.2) ?_ (fun x hx => ?_)
    | with_reducible refine Pr_bindN (fun x => ?_)
    | with_reducible refine Ag.up ?_ (by unfold PM; omega)
    | with_reducible refine Ag.cp ?_ (by unfold PM; omega)
    | assumption
    | exact Ag.rf
theorem fr_X12_night {M m : MM} {p1 : Int} (h : Ag PM m M) : Pr PM M (fun (y : Int × MM) => y.2) (f_X12_night m p1) := by
  unfold f_X12_night
  repeat' first
    | with_reducible refine Pr_some ?_
    | with_reducible refine fr_X12_layStill ?_
    | with_reducible refine fr_X12_goMany ?_
    | with_reducible refine fr_X12_goOn ?_
    | with_reducible refine Pr_gd ?_
    | with_reducible refine Pr_ite ?_ ?_
    | with_reducible refine Pr_bM ?_ (fun m hm => ?_)
    | with_reducible refine Pr_bI (fun x => ?_)
    | with_reducible refine Pr_gH (fun b hb => ?_)
    | with_reducible refine Pr_bS (fun x => x) ?_ (fun x hx => ?_)
    | with_reducible refine Pr_bS (fun x => x.2) ?_ (fun x hx => ?_)
    | with_reducible refine Pr_bS (fun x => x.2.2) ?_ (fun x hx => ?_)
    | with_reducible refine Pr_bS (fun x => x.2.2.2) ?_ (fun x hx => ?_)
    | with_reducible refine Pr_bS (fun x => x.2.2.2.2) ?_ (fun x hx => ?_)
    | with_reducible refine Pr_bS (fun _ => M) ?_ (fun x hx => ?_)
    | with_reducible refine Pr_lp (fun x => x) (fun x hx => ?_) _ _ ?_
    | with_reducible refine Pr_lp (fun x => x.2) (fun x hx => ?_) _ _ ?_
    | with_reducible refine Pr_lp (fun x => x.2.2) (fun x hx => ?_) _ _ ?_
    | with_reducible refine Pr_lp (fun x => x.2.2.2) (fun x hx => ?_) _ _ ?_
    | with_reducible refine Pr_lp (fun x => x.2.2.2.2) (fun x hx => ?_) _ _ ?_
    | with_reducible refine Pr_lp (fun _ => M) (fun x hx => ?_) _ _ ?_
    | with_reducible refine Pr_bind (fun x => x) ?_ (fun x hx => ?_)
    | with_reducible refine Pr_bind (fun x => x.2) ?_ (fun x hx => ?_)
    | with_reducible refine Pr_bind (fun x => x.2.2) ?_ (fun x hx => ?_)
    | with_reducible refine Pr_bind (fun x => x.2.2.2) ?_ (fun x hx => ?_)
    | with_reducible refine Pr_bind (fun x => x.2.2.2.2) ?_ (fun x hx => ?_)
    | with_reducible refine Pr_bindN (fun x => ?_)
    | with_reducible refine Ag.up ?_ (by unfold PM; omega)
    | with_reducible refine Ag.cp ?_ (by unfold PM; omega)
    | assumption
    | exact Ag.rf
theorem fr_X12_swings {M m : MM} {p1 : Int} (h : Ag PM m M) : Pr PM M (fun (y : Int × MM) => y.2) (f_X12_swings m p1) := by
  unfold f_X12_swings
  repeat' first
    | with_reducible refine Pr_some ?_
    | with_reducible refine fr_X12_layTried ?_
    | with_reducible refine fr_X12_goMany ?_
    | with_reducible refine Pr_gd ?_
    | with_reducible refine Pr_ite ?_ ?_
    | with_reducible refine Pr_bM ?_ (fun m hm => ?_)
    | with_reducible refine Pr_bI (fun x => ?_)
    | with_reducible refine Pr_gH (fun b hb => ?_)
    | with_reducible refine Pr_bS (fun x => x) ?_ (fun x hx => ?_)
    | with_reducible refine Pr_bS (fun x => x.2) ?_ (fun x hx => ?_)
    | with_reducible refine Pr_bS (fun x => x.2.2) ?_ (fun x hx => ?_)
    | with_reducible refine Pr_bS (fun x => x.2.2.2) ?_ (fun x hx => ?_)
    | with_reducible refine Pr_bS (fun x => x.2.2.2.2) ?_ (fun x hx => ?_)
    | with_reducible refine Pr_bS (fun _ => M) ?_ (fun x hx => ?_)
    | with_reducible refine Pr_lp (fun x => x) (fun x hx => ?_) _ _ ?_
    | with_reducible refine Pr_lp (fun x => x.2) (fun x hx => ?_) _ _ ?_
    | with_reducible refine Pr_lp (fun x => x.2.2) (fun x hx => ?_) _ _ ?_
    | with_reducible refine Pr_lp (fun x => x.2.2.2) (fun x hx => ?_) _ _ ?_
    | with_reducible refine Pr_lp (fun x => x.2.2.2.2) (fun x hx => ?_) _ _ ?_
    | with_reducible refine Pr_lp (fun _ => M) (fun x hx => ?_) _ _ ?_
    | with_reducible refine Pr_bind (fun x => x) ?_ (fun x hx => ?_)
    | with_reducible refine Pr_bind (fun x => x.2) ?_ (fun x hx => ?_)
    | with_reducible refine Pr_bind (fun x => x.2.2) ?_ (fun x hx => ?_)
    | with_reducible refine Pr_bind (fun x => x.2.2.2) ?_ (fun x hx => ?_)
    | with_reducible refine Pr_bind (fun x => x.2.2.2.2) ?_ (fun x hx => ?_)
    | with_reducible refine Pr_bindN (fun x => ?_)
    | with_reducible refine Ag.up ?_ (by unfold PM; omega)
    | with_reducible refine Ag.cp ?_ (by unfold PM; omega)
    | assumption
    | exact Ag.rf
theorem fr_X12_degree {M m : MM} {p1 : Int} (h : Ag PM m M) : Pr PM M (fun (y : Int × MM) => y.2) (f_X12_degree m p1) := by
  unfold f_X12_degree
  repeat' first
    | with_reducible refine Pr_some ?_
    | with_reducible refine fr_X12_layStill ?_
    | with_reducible refine fr_X12_goMany ?_
    | with_reducible refine Pr_gd ?_
    | with_reducible refine Pr_ite ?_ ?_
    | with_reducible refine Pr_bM ?_ (fun m hm => ?_)
    | with_reducible refine Pr_bI (fun x => ?_)
    | with_reducible refine Pr_gH (fun b hb => ?_)
    | with_reducible refine Pr_bS (fun x => x) ?_ (fun x hx => ?_)
    | with_reducible refine Pr_bS (fun x => x.2) ?_ (fun x hx => ?_)
    | with_reducible refine Pr_bS (fun x => x.2.2) ?_ (fun x hx => ?_)
    | with_reducible refine Pr_bS (fun x => x.2.2.2) ?_ (fun x hx => ?_)
    | with_reducible refine Pr_bS (fun x => x.2.2.2.2) ?_ (fun x hx => ?_)
    | with_reducible refine Pr_bS (fun _ => M) ?_ (fun x hx => ?_)
    | with_reducible refine Pr_lp (fun x => x) (fun x hx => ?_) _ _ ?_
    | with_reducible refine Pr_lp (fun x => x.2) (fun x hx => ?_) _ _ ?_
    | with_reducible refine Pr_lp (fun x => x.2.2) (fun x hx => ?_) _ _ ?_
    | with_reducible refine Pr_lp (fun x => x.2.2.2) (fun x hx => ?_) _ _ ?_
    | with_reducible refine Pr_lp (fun x => x.2.2.2.2) (fun x hx => ?_) _ _ ?_
    | with_reducible refine Pr_lp (fun _ => M) (fun x hx => ?_) _ _ ?_
    | with_reducible refine Pr_bind (fun x => x) ?_ (fun x hx => ?_)
    | with_reducible refine Pr_bind (fun x => x.2) ?_ (fun x hx => ?_)
    | with_reducible refine Pr_bind (fun x => x.2.2) ?_ (fun x hx => ?_)
    | with_reducible refine Pr_bind (fun x => x.2.2.2) ?_ (fun x hx => ?_)
    | with_reducible refine Pr_bind (fun x => x.2.2.2.2) ?_ (fun x hx => ?_)
    | with_reducible refine Pr_bindN (fun x => ?_)
    | with_reducible refine Ag.up ?_ (by unfold PM; omega)
    | with_reducible refine Ag.cp ?_ (by unfold PM; omega)
    | assumption
    | exact Ag.rf
theorem fr_X12_strip {M m : MM} {p1 : Int} {p2 : Int} (h : Ag PM m M) : Pr PM M (fun (y : Int × MM) => y.2) (f_X12_strip m p1 p2) := by
  unfold f_X12_strip
  repeat' first
    | with_reducible refine Pr_some ?_
    | with_reducible refine fr_X12_layStill ?_
    | with_reducible refine fr_X12_goMany ?_
    | with_reducible refine fr_X12_plainTried ?_
    | with_reducible refine Pr_gd ?_
    | with_reducible refine Pr_ite ?_ ?_
    | with_reducible refine Pr_bM ?_ (fun m hm => ?_)
    | with_reducible refine Pr_bI (fun x => ?_)
    | with_reducible refine Pr_gH (fun b hb => ?_)
    | with_reducible refine Pr_bS (fun x => x) ?_ (fun x hx => ?_)
    | with_reducible refine Pr_bS (fun x => x.2) ?_ (fun x hx => ?_)
    | with_reducible refine Pr_bS (fun x => x.2.2) ?_ (fun x hx => ?_)
    | with_reducible refine Pr_bS (fun x => x.2.2.2) ?_ (fun x hx => ?_)
    | with_reducible refine Pr_bS (fun x => x.2.2.2.2) ?_ (fun x hx => ?_)
    | with_reducible refine Pr_bS (fun _ => M) ?_ (fun x hx => ?_)
    | with_reducible refine Pr_lp (fun x => x) (fun x hx => ?_) _ _ ?_
    | with_reducible refine Pr_lp (fun x => x.2) (fun x hx => ?_) _ _ ?_
    | with_reducible refine Pr_lp (fun x => x.2.2) (fun x hx => ?_) _ _ ?_
    | with_reducible refine Pr_lp (fun x => x.2.2.2) (fun x hx => ?_) _ _ ?_
    | with_reducible refine Pr_lp (fun x => x.2.2.2.2) (fun x hx => ?_) _ _ ?_
    | with_reducible refine Pr_lp (fun _ => M) (fun x hx => ?_) _ _ ?_
    | with_reducible refine Pr_bind (fun x => x) ?_ (fun x hx => ?_)
    | with_reducible refine Pr_bind (fun x => x.2) ?_ (fun x hx => ?_)
    | with_reducible refine Pr_bind (fun x => x.2.2) ?_ (fun x hx => ?_)
    | with_reducible refine Pr_bind (fun x => x.2.2.2) ?_ (fun x hx => ?_)
    | with_reducible refine Pr_bind (fun x => x.2.2.2.2) ?_ (fun x hx => ?_)
    | with_reducible refine Pr_bindN (fun x => ?_)
    | with_reducible refine Ag.up ?_ (by unfold PM; omega)
    | with_reducible refine Ag.cp ?_ (by unfold PM; omega)
    | assumption
    | exact Ag.rf
theorem fr_X12_learn {M m : MM} {p1 : Int} (h : Ag PM m M) : Pr PM M (fun (y : Int × MM) => y.2) (f_X12_learn m p1) := by
  unfold f_X12_learn
  repeat' first
    | with_reducible refine Pr_some ?_
    | with_reducible refine Pr_gd ?_
    | with_reducible refine Pr_ite ?_ ?_
    | with_reducible refine Pr_bM ?_ (fun m hm => ?_)
    | with_reducible refine Pr_bI (fun x => ?_)
    | with_reducible refine Pr_gH (fun b hb => ?_)
    | with_reducible refine Pr_bS (fun x => x) ?_ (fun x hx => ?_)
    | with_reducible refine Pr_bS (fun x => x.2) ?_ (fun x hx => ?_)
    | with_reducible refine Pr_bS (fun x => x.2.2) ?_ (fun x hx => ?_)
    | with_reducible refine Pr_bS (fun x => x.2.2.2) ?_ (fun x hx => ?_)
    | with_reducible refine Pr_bS (fun x => x.2.2.2.2) ?_ (fun x hx => ?_)
    | with_reducible refine Pr_bS (fun _ => M) ?_ (fun x hx => ?_)
    | with_reducible refine Pr_lp (fun x => x) (fun x hx => ?_) _ _ ?_
    | with_reducible refine Pr_lp (fun x => x.2) (fun x hx => ?_) _ _ ?_
    | with_reducible refine Pr_lp (fun x => x.2.2) (fun x hx => ?_) _ _ ?_
    | with_reducible refine Pr_lp (fun x => x.2.2.2) (fun x hx => ?_) _ _ ?_
    | with_reducible refine Pr_lp (fun x => x.2.2.2.2) (fun x hx => ?_) _ _ ?_
    | with_reducible refine Pr_lp (fun _ => M) (fun x hx => ?_) _ _ ?_
    | with_reducible refine Pr_bind (fun x => x) ?_ (fun x hx => ?_)
    | with_reducible refine Pr_bind (fun x => x.2) ?_ (fun x hx => ?_)
    | with_reducible refine Pr_bind (fun x => x.2.2) ?_ (fun x hx => ?_)
    | with_reducible refine Pr_bind (fun x => x.2.2.2) ?_ (fun x hx => ?_)
    | with_reducible refine Pr_bind (fun x => x.2.2.2.2) ?_ (fun x hx => ?_)
    | with_reducible refine Pr_bindN (fun x => ?_)
    | with_reducible refine Ag.up ?_ (by unfold PM; omega)
    | with_reducible refine Ag.cp ?_ (by unfold PM; omega)
    | assumption
    | exact Ag.rf
theorem fr_X12_turnsOf {M m : MM} {p1 : Int} {p2 : Int} (h : Ag PM m M) : Pr PM M (fun (y : Int × MM) => y.2) (f_X12_turnsOf m p1 p2) := by
  unfold f_X12_turnsOf
  repeat' first
    | with_reducible refine Pr_some ?_
    | with_reducible refine fr_X12_layTried ?_
    | with_reducible refine fr_X12_goMany ?_
    | with_reducible refine Pr_gd ?_
    | with_reducible refine Pr_ite ?_ ?_
    | with_reducible refine Pr_bM ?_ (fun m hm => ?_)
    | with_reducible refine Pr_bI (fun x => ?_)
    | with_reducible refine Pr_gH (fun b hb => ?_)
    | with_reducible refine Pr_bS (fun x => x) ?_ (fun x hx => ?_)
    | with_reducible refine Pr_bS (fun x => x.2) ?_ (fun x hx => ?_)
    | with_reducible refine Pr_bS (fun x => x.2.2) ?_ (fun x hx => ?_)
    | with_reducible refine Pr_bS (fun x => x.2.2.2) ?_ (fun x hx => ?_)
    | with_reducible refine Pr_bS (fun x => x.2.2.2.2) ?_ (fun x hx => ?_)
    | with_reducible refine Pr_bS (fun _ => M) ?_ (fun x hx => ?_)
    | with_reducible refine Pr_lp (fun x => x) (fun x hx => ?_) _ _ ?_
    | with_reducible refine Pr_lp (fun x => x.2) (fun x hx => ?_) _ _ ?_
    | with_reducible refine Pr_lp (fun x => x.2.2) (fun x hx => ?_) _ _ ?_
    | with_reducible refine Pr_lp (fun x => x.2.2.2) (fun x hx => ?_) _ _ ?_
    | with_reducible refine Pr_lp (fun x => x.2.2.2.2) (fun x hx => ?_) _ _ ?_
    | with_reducible refine Pr_lp (fun _ => M) (fun x hx => ?_) _ _ ?_
    | with_reducible refine Pr_bind (fun x => x) ?_ (fun x hx => ?_)
    | with_reducible refine Pr_bind (fun x => x.2) ?_ (fun x hx => ?_)
    | with_reducible refine Pr_bind (fun x => x.2.2) ?_ (fun x hx => ?_)
    | with_reducible refine Pr_bind (fun x => x.2.2.2) ?_ (fun x hx => ?_)
    | with_reducible refine Pr_bind (fun x => x.2.2.2.2) ?_ (fun x hx => ?_)
    | with_reducible refine Pr_bindN (fun x => ?_)
    | with_reducible refine Ag.up ?_ (by unfold PM; omega)
    | with_reducible refine Ag.cp ?_ (by unfold PM; omega)
    | assumption
    | exact Ag.rf
theorem fr_X12_spread {M m : MM}  (h : Ag PM m M) : Pr PM M (fun (y : Int × MM) => y.2) (f_X12_spread m) := by
  unfold f_X12_spread
  repeat' first
    | with_reducible refine Pr_some ?_
    | with_reducible refine Pr_gd ?_
    | with_reducible refine Pr_ite ?_ ?_
    | with_reducible refine Pr_bM ?_ (fun m hm => ?_)
    | with_reducible refine Pr_bI (fun x => ?_)
    | with_reducible refine Pr_gH (fun b hb => ?_)
    | with_reducible refine Pr_bS (fun x => x) ?_ (fun x hx => ?_)
    | with_reducible refine Pr_bS (fun x => x.2) ?_ (fun x hx => ?_)
    | with_reducible refine Pr_bS (fun x => x.2.2) ?_ (fun x hx => ?_)
    | with_reducible refine Pr_bS (fun x => x.2.2.2) ?_ (fun x hx => ?_)
    | with_reducible refine Pr_bS (fun x => x.2.2.2.2) ?_ (fun x hx => ?_)
    | with_reducible refine Pr_bS (fun _ => M) ?_ (fun x hx => ?_)
    | with_reducible refine Pr_lp (fun x => x) (fun x hx => ?_) _ _ ?_
    | with_reducible refine Pr_lp (fun x => x.2) (fun x hx => ?_) _ _ ?_
    | with_reducible refine Pr_lp (fun x => x.2.2) (fun x hx => ?_) _ _ ?_
    | with_reducible refine Pr_lp (fun x => x.2.2.2) (fun x hx => ?_) _ _ ?_
    | with_reducible refine Pr_lp (fun x => x.2.2.2.2) (fun x hx => ?_) _ _ ?_
    | with_reducible refine Pr_lp (fun _ => M) (fun x hx => ?_) _ _ ?_
    | with_reducible refine Pr_bind (fun x => x) ?_ (fun x hx => ?_)
    | with_reducible refine Pr_bind (fun x => x.2) ?_ (fun x hx => ?_)
    | with_reducible refine Pr_bind (fun x => x.2.2) ?_ (fun x hx => ?_)
    | with_reducible refine Pr_bind (fun x => x.2.2.2) ?_ (fun x hx => ?_)
    | with_reducible refine Pr_bind (fun x => x.2.2.2.2) ?_ (fun x hx => ?_)
    | with_reducible refine Pr_bindN (fun x => ?_)
    | with_reducible refine Ag.up ?_ (by unfold PM; omega)
    | with_reducible refine Ag.cp ?_ (by unfold PM; omega)
    | assumption
    | exact Ag.rf
theorem fr_X12_feels {M m : MM} {p1 : Int} {p2 : Int} (h : Ag PM m M) : Pr PM M (fun (y : Int × MM) => y.2) (f_X12_feels m p1 p2) := by
  unfold f_X12_feels
  repeat' first
    | with_reducible refine Pr_some ?_
    | with_reducible refine fr_X12_layTried ?_
    | with_reducible refine fr_X12_goOn ?_
    | with_reducible refine Pr_gd ?_
    | with_reducible refine Pr_ite ?_ ?_
    | with_reducible refine Pr_bM ?_ (fun m hm => ?_)
    | with_reducible refine Pr_bI (fun x => ?_)
    | with_reducible refine Pr_gH (fun b hb => ?_)
    | with_reducible refine Pr_bS (fun x => x) ?_ (fun x hx => ?_)
    | with_reducible refine Pr_bS (fun x => x.2) ?_ (fun x hx => ?_)
    | with_reducible refine Pr_bS (fun x => x.2.2) ?_ (fun x hx => ?_)
    | with_reducible refine Pr_bS (fun x => x.2.2.2) ?_ (fun x hx => ?_)
    | with_reducible refine Pr_bS (fun x => x.2.2.2.2) ?_ (fun x hx => ?_)
    | with_reducible refine Pr_bS (fun _ => M) ?_ (fun x hx => ?_)
    | with_reducible refine Pr_lp (fun x => x) (fun x hx => ?_) _ _ ?_
    | with_reducible refine Pr_lp (fun x => x.2) (fun x hx => ?_) _ _ ?_
    | with_reducible refine Pr_lp (fun x => x.2.2) (fun x hx => ?_) _ _ ?_
    | with_reducible refine Pr_lp (fun x => x.2.2.2) (fun x hx => ?_) _ _ ?_
    | with_reducible refine Pr_lp (fun x => x.2.2.2.2) (fun x hx => ?_) _ _ ?_
    | with_reducible refine Pr_lp (fun _ => M) (fun x hx => ?_) _ _ ?_
    | with_reducible refine Pr_bind (fun x => x) ?_ (fun x hx => ?_)
    | with_reducible refine Pr_bind (fun x => x.2) ?_ (fun x hx => ?_)
    | with_reducible refine Pr_bind (fun x => x.2.2) ?_ (fun x hx => ?_)
    | with_reducible refine Pr_bind (fun x => x.2.2.2) ?_ (fun x hx => ?_)
    | with_reducible refine Pr_bind (fun x => x.2.2.2.2) ?_ (fun x hx => ?_)
    | with_reducible refine Pr_bindN (fun x => ?_)
    | with_reducible refine Ag.up ?_ (by unfold PM; omega)
    | with_reducible refine Ag.cp ?_ (by unfold PM; omega)
    | assumption
    | exact Ag.rf
theorem fr_X12_rests {M m : MM} {p1 : Int} {p2 : Int} (h : Ag PM m M) : Pr PM M (fun (y : Int × MM) => y.2) (f_X12_rests m p1 p2) := by
  unfold f_X12_rests
  repeat' first
    | with_reducible refine Pr_some ?_
    | with_reducible refine Pr_gd ?_
    | with_reducible refine Pr_ite ?_ ?_
    | with_reducible refine Pr_bM ?_ (fun m hm => ?_)
    | with_reducible refine Pr_bI (fun x => ?_)
    | with_reducible refine Pr_gH (fun b hb => ?_)
    | with_reducible refine Pr_bS (fun x => x) ?_ (fun x hx => ?_)
    | with_reducible refine Pr_bS (fun x => x.2) ?_ (fun x hx => ?_)
    | with_reducible refine Pr_bS (fun x => x.2.2) ?_ (fun x hx => ?_)
    | with_reducible refine Pr_bS (fun x => x.2.2.2) ?_ (fun x hx => ?_)
    | with_reducible refine Pr_bS (fun x => x.2.2.2.2) ?_ (fun x hx => ?_)
    | with_reducible refine Pr_bS (fun _ => M) ?_ (fun x hx => ?_)
    | with_reducible refine Pr_lp (fun x => x) (fun x hx => ?_) _ _ ?_
    | with_reducible refine Pr_lp (fun x => x.2) (fun x hx => ?_) _ _ ?_
    | with_reducible refine Pr_lp (fun x => x.2.2) (fun x hx => ?_) _ _ ?_
    | with_reducible refine Pr_lp (fun x => x.2.2.2) (fun x hx => ?_) _ _ ?_
    | with_reducible refine Pr_lp (fun x => x.2.2.2.2) (fun x hx => ?_) _ _ ?_
    | with_reducible refine Pr_lp (fun _ => M) (fun x hx => ?_) _ _ ?_
    | with_reducible refine Pr_bind (fun x => x) ?_ (fun x hx => ?_)
    | with_reducible refine Pr_bind (fun x => x.2) ?_ (fun x hx => ?_)
    | with_reducible refine Pr_bind (fun x => x.2.2) ?_ (fun x hx => ?_)
    | with_reducible refine Pr_bind (fun x => x.2.2.2) ?_ (fun x hx => ?_)
    | with_reducible refine Pr_bind (fun x => x.2.2.2.2) ?_ (fun x hx => ?_)
    | with_reducible refine Pr_bindN (fun x => ?_)
    | with_reducible refine Ag.up ?_ (by unfold PM; omega)
    | with_reducible refine Ag.cp ?_ (by unfold PM; omega)
    | assumption
    | exact Ag.rf
theorem fr_X12_rest {M m : MM} {p1 : Int} {p2 : Int} {p3 : Int} (h : Ag PM m M) : Pr PM M (fun (y : Int × MM) => y.2) (f_X12_rest m p1 p2 p3) := by
  unfold f_X12_rest
  repeat' first
    | with_reducible refine Pr_some ?_
    | with_reducible refine Pr_gd ?_
    | with_reducible refine Pr_ite ?_ ?_
    | with_reducible refine Pr_bM ?_ (fun m hm => ?_)
    | with_reducible refine Pr_bI (fun x => ?_)
    | with_reducible refine Pr_gH (fun b hb => ?_)
    | with_reducible refine Pr_bS (fun x => x) ?_ (fun x hx => ?_)
    | with_reducible refine Pr_bS (fun x => x.2) ?_ (fun x hx => ?_)
    | with_reducible refine Pr_bS (fun x => x.2.2) ?_ (fun x hx => ?_)
    | with_reducible refine Pr_bS (fun x => x.2.2.2) ?_ (fun x hx => ?_)
    | with_reducible refine Pr_bS (fun x => x.2.2.2.2) ?_ (fun x hx => ?_)
    | with_reducible refine Pr_bS (fun _ => M) ?_ (fun x hx => ?_)
    | with_reducible refine Pr_lp (fun x => x) (fun x hx => ?_) _ _ ?_
    | with_reducible refine Pr_lp (fun x => x.2) (fun x hx => ?_) _ _ ?_
    | with_reducible refine Pr_lp (fun x => x.2.2) (fun x hx => ?_) _ _ ?_
    | with_reducible refine Pr_lp (fun x => x.2.2.2) (fun x hx => ?_) _ _ ?_
    | with_reducible refine Pr_lp (fun x => x.2.2.2.2) (fun x hx => ?_) _ _ ?_
    | with_reducible refine Pr_lp (fun _ => M) (fun x hx => ?_) _ _ ?_
    | with_reducible refine Pr_bind (fun x => x) ?_ (fun x hx => ?_)
    | with_reducible refine Pr_bind (fun x => x.2) ?_ (fun x hx => ?_)
    | with_reducible refine Pr_bind (fun x => x.2.2) ?_ (fun x hx => ?_)
    | with_reducible refine Pr_bind (fun x => x.2.2.2) ?_ (fun x hx => ?_)
    | with_reducible refine Pr_bind (fun x => x.2.2.2.2) ?_ (fun x hx => ?_)
    | with_reducible refine Pr_bindN (fun x => ?_)
    | with_reducible refine Ag.up ?_ (by unfold PM; omega)
    | with_reducible refine Ag.cp ?_ (by unfold PM; omega)
    | assumption
    | exact Ag.rf
theorem fr_X12_crossWith {M m : MM} {p1 : Int} {p2 : Int} (h : Ag PM m M) : Pr PM M (fun (y : Int × MM) => y.2) (f_X12_crossWith m p1 p2) := by
  unfold f_X12_crossWith
  repeat' first
    | with_reducible refine Pr_some ?_
    | with_reducible refine fr_X12_layStill ?_
    | with_reducible refine fr_X12_goMany ?_
    | with_reducible refine Pr_gd ?_
    | with_reducible refine Pr_ite ?_ ?_
    | with_reducible refine Pr_bM ?_ (fun m hm => ?_)
    | with_reducible refine Pr_bI (fun x => ?_)
    | with_reducible refine Pr_gH (fun b hb => ?_)
    | with_reducible refine Pr_bS (fun x => x) ?_ (fun x hx => ?_)
    | with_reducible refine Pr_bS (fun x => x.2) ?_ (fun x hx => ?_)
    | with_reducible refine Pr_bS (fun x => x.2.2) ?_ (fun x hx => ?_)
    | with_reducible refine Pr_bS (fun x => x.2.2.2) ?_ (fun x hx => ?_)
    | with_reducible refine Pr_bS (fun x => x.2.2.2.2) ?_ (fun x hx => ?_)
    | with_reducible refine Pr_bS (fun _ => M) ?_ (fun x hx => ?_)
    | with_reducible refine Pr_lp (fun x => x) (fun x hx => ?_) _ _ ?_
    | with_reducible refine Pr_lp (fun x => x.2) (fun x hx => ?_) _ _ ?_
    | with_reducible refine Pr_lp (fun x => x.2.2) (fun x hx => ?_) _ _ ?_
    | with_reducible refine Pr_lp (fun x => x.2.2.2) (fun x hx => ?_) _ _ ?_
    | with_reducible refine Pr_lp (fun x => x.2.2.2.2) (fun x hx => ?_) _ _ ?_
    | with_reducible refine Pr_lp (fun _ => M) (fun x hx => ?_) _ _ ?_
    | with_reducible refine Pr_bind (fun x => x) ?_ (fun x hx => ?_)
    | with_reducible refine Pr_bind (fun x => x.2) ?_ (fun x hx => ?_)
    | with_reducible refine Pr_bind (fun x => x.2.2) ?_ (fun x hx => ?_)
    | with_reducible refine Pr_bind (fun x => x.2.2.2) ?_ (fun x hx => ?_)
    | with_reducible refine Pr_bind (fun x => x.2.2.2.2) ?_ (fun x hx => ?_)
    | with_reducible refine Pr_bindN (fun x => ?_)
    | with_reducible refine Ag.up ?_ (by unfold PM; omega)
    | with_reducible refine Ag.cp ?_ (by unfold PM; omega)
    | assumption
    | exact Ag.rf
theorem fr_X12_givesIn {M m : MM} {p1 : Int} {p2 : Int} (h : Ag PM m M) : Pr PM M (fun (y : Int × MM) => y.2) (f_X12_givesIn m p1 p2) := by
  unfold f_X12_givesIn
  repeat' first
    | with_reducible refine Pr_some ?_
    | with_reducible refine fr_X12_crossWith ?_
    | with_reducible refine Pr_gd ?_
    | with_reducible refine Pr_ite ?_ ?_
    | with_reducible refine Pr_bM ?_ (fun m hm => ?_)
    | with_reducible refine Pr_bI (fun x => ?_)
    | with_reducible refine Pr_gH (fun b hb => ?_)
    | with_reducible refine Pr_bS (fun x => x) ?_ (fun x hx => ?_)
    | with_reducible refine Pr_bS (fun x => x.2) ?_ (fun x hx => ?_)
    | with_reducible refine Pr_bS (fun x => x.2.2) ?_ (fun x hx => ?_)
    | with_reducible refine Pr_bS (fun x => x.2.2.2) ?_ (fun x hx => ?_)
    | with_reducible refine Pr_bS (fun x => x.2.2.2.2) ?_ (fun x hx => ?_)
    | with_reducible refine Pr_bS (fun _ => M) ?_ (fun x hx => ?_)
    | with_reducible refine Pr_lp (fun x => x) (fun x hx => ?_) _ _ ?_
    | with_reducible refine Pr_lp (fun x => x.2) (fun x hx => ?_) _ _ ?_
    | with_reducible refine Pr_lp (fun x => x.2.2) (fun x hx => ?_) _ _ ?_
    | with_reducible refine Pr_lp (fun x => x.2.2.2) (fun x hx => ?_) _ _ ?_
    | with_reducible refine Pr_lp (fun x => x.2.2.2.2) (fun x hx => ?_) _ _ ?_
    | with_reducible refine Pr_lp (fun _ => M) (fun x hx => ?_) _ _ ?_
    | with_reducible refine Pr_bind (fun x => x) ?_ (fun x hx => ?_)
    | with_reducible refine Pr_bind (fun x => x.2) ?_ (fun x hx => ?_)
    | with_reducible refine Pr_bind (fun x => x.2.2) ?_ (fun x hx => ?_)
    | with_reducible refine Pr_bind (fun x => x.2.2.2) ?_ (fun x hx => ?_)
    | with_reducible refine Pr_bind (fun x => x.2.2.2.2) ?_ (fun x hx => ?_)
    | with_reducible refine Pr_bindN (fun x => ?_)
    | with_reducible refine Ag.up ?_ (by unfold PM; omega)
    | with_reducible refine Ag.cp ?_ (by unfold PM; omega)
    | assumption
    | exact Ag.rf
theorem fr_X12_noted {M m : MM} {p1 : Int} {p2 : Int} {p3 : Int} (h : Ag PM m M) : Pr PM M (fun (y : Int × MM) => y.2) (f_X12_noted m p1 p2 p3) := by
  unfold f_X12_noted
  repeat' first
    | with_reducible refine Pr_some ?_
    | with_reducible refine Pr_gd ?_
    | with_reducible refine Pr_ite ?_ ?_
    | with_reducible refine Pr_bM ?_ (fun m hm => ?_)
    | with_reducible refine Pr_bI (fun x => ?_)
    | with_reducible refine Pr_gH (fun b hb => ?_)
    | with_reducible refine Pr_bS (fun x => x) ?_ (fun x hx => ?_)
    | with_reducible refine Pr_bS (fun x => x.2) ?_ (fun x hx => ?_)
    | with_reducible refine Pr_bS (fun x => x.2.2) ?_ (fun x hx => ?_)
    | with_reducible refine Pr_bS (fun x => x.2.2.2) ?_ (fun x hx => ?_)
    | with_reducible refine Pr_bS (fun x => x.2.2.2.2) ?_ (fun x hx => ?_)
    | with_reducible refine Pr_bS (fun _ => M) ?_ (fun x hx => ?_)
    | with_reducible refine Pr_lp (fun x => x) (fun x hx => ?_) _ _ ?_
    | with_reducible refine Pr_lp (fun x => x.2) (fun x hx => ?_) _ _ ?_
    | with_reducible refine Pr_lp (fun x => x.2.2) (fun x hx => ?_) _ _ ?_
    | with_reducible refine Pr_lp (fun x => x.2.2.2) (fun x hx => ?_) _ _ ?_
    | with_reducible refine Pr_lp (fun x => x.2.2.2.2) (fun x hx => ?_) _ _ ?_
    | with_reducible refine Pr_lp (fun _ => M) (fun x hx => ?_) _ _ ?_
    | with_reducible refine Pr_bind (fun x => x) ?_ (fun x hx => ?_)
    | with_reducible refine Pr_bind (fun x => x.2) ?_ (fun x hx => ?_)
    | with_reducible refine Pr_bind (fun x => x.2.2) ?_ (fun x hx => ?_)
    | with_reducible refine Pr_bind (fun x => x.2.2.2) ?_ (fun x hx => ?_)
    | with_reducible refine Pr_bind (fun x => x.2.2.2.2) ?_ (fun x hx => ?_)
    | with_reducible refine Pr_bindN (fun x => ?_)
    | with_reducible refine Ag.up ?_ (by unfold PM; omega)
    | with_reducible refine Ag.cp ?_ (by unfold PM; omega)
    | assumption
    | exact Ag.rf
theorem fr_X12_wear {M m : MM} {p1 : Int} {p2 : Int} {p3 : Int} (h : Ag PM m M) : Pr PM M (fun (y : Int × MM) => y.2) (f_X12_wear m p1 p2 p3) := by
  unfold f_X12_wear
  repeat' first
    | with_reducible refine Pr_some ?_
    | with_reducible refine fr_X12_noted ?_
    | with_reducible refine Pr_gd ?_
    | with_reducible refine Pr_ite ?_ ?_
    | with_reducible refine Pr_bM ?_ (fun m hm => ?_)
    | with_reducible refine Pr_bI (fun x => ?_)
    | with_reducible refine Pr_gH (fun b hb => ?_)
    | with_reducible refine Pr_bS (fun x => x) ?_ (fun x hx => ?_)
    | with_reducible refine Pr_bS (fun x => x.2) ?_ (fun x hx => ?_)
    | with_reducible refine Pr_bS (fun x => x.2.2) ?_ (fun x hx => ?_)
    | with_reducible refine Pr_bS (fun x => x.2.2.2) ?_ (fun x hx => ?_)
    | with_reducible refine Pr_bS (fun x => x.2.2.2.2) ?_ (fun x hx => ?_)
    | with_reducible refine Pr_bS (fun _ => M) ?_ (fun x hx => ?_)
    | with_reducible refine Pr_lp (fun x => x) (fun x hx => ?_) _ _ ?_
    | with_reducible refine Pr_lp (fun x => x.2) (fun x hx => ?_) _ _ ?_
    | with_reducible refine Pr_lp (fun x => x.2.2) (fun x hx => ?_) _ _ ?_
    | with_reducible refine Pr_lp (fun x => x.2.2.2) (fun x hx => ?_) _ _ ?_
    | with_reducible refine Pr_lp (fun x => x.2.2.2.2) (fun x hx => ?_) _ _ ?_
    | with_reducible refine Pr_lp (fun _ => M) (fun x hx => ?_) _ _ ?_
    | with_reducible refine Pr_bind (fun x => x) ?_ (fun x hx => ?_)
    | with_reducible refine Pr_bind (fun x => x.2) ?_ (fun x hx => ?_)
    | with_reducible refine Pr_bind (fun x => x.2.2) ?_ (fun x hx => ?_)
    | with_reducible refine Pr_bind (fun x => x.2.2.2) ?_ (fun x hx => ?_)
    | with_reducible refine Pr_bind (fun x => x.2.2.2.2) ?_ (fun x hx => ?_)
    | with_reducible refine Pr_bindN (fun x => ?_)
    | with_reducible refine Ag.up ?_ (by unfold PM; omega)
    | with_reducible refine Ag.cp ?_ (by unfold PM; omega)
    | assumption
    | exact Ag.rf
theorem fr_X12_strike {M m : MM} {p1 : Int} (h : Ag PM m M) : Pr PM M (fun (y : Int × MM) => y.2) (f_X12_strike m p1) := by
  unfold f_X12_strike
  repeat' first
    | with_reducible refine Pr_some ?_
    | with_reducible refine fr_X12_noted ?_
    | with_reducible refine Pr_gd ?_
    | with_reducible refine Pr_ite ?_ ?_
    | with_reducible refine Pr_bM ?_ (fun m hm => ?_)
    | with_reducible refine Pr_bI (fun x => ?_)
    | with_reducible refine Pr_gH (fun b hb => ?_)
    | with_reducible refine Pr_bS (fun x => x) ?_ (fun x hx => ?_)
    | with_reducible refine Pr_bS (fun x => x.2) ?_ (fun x hx => ?_)
    | with_reducible refine Pr_bS (fun x => x.2.2) ?_ (fun x hx => ?_)
    | with_reducible refine Pr_bS (fun x => x.2.2.2) ?_ (fun x hx => ?_)
    | with_reducible refine Pr_bS (fun x => x.2.2.2.2) ?_ (fun x hx => ?_)
    | with_reducible refine Pr_bS (fun _ => M) ?_ (fun x hx => ?_)
    | with_reducible refine Pr_lp (fun x => x) (fun x hx => ?_) _ _ ?_
    | with_reducible refine Pr_lp (fun x => x.2) (fun x hx => ?_) _ _ ?_
    | with_reducible refine Pr_lp (fun x => x.2.2) (fun x hx => ?_) _ _ ?_
    | with_reducible refine Pr_lp (fun x => x.2.2.2) (fun x hx => ?_) _ _ ?_
    | with_reducible refine Pr_lp (fun x => x.2.2.2.2) (fun x hx => ?_) _ _ ?_
    | with_reducible refine Pr_lp (fun _ => M) (fun x hx => ?_) _ _ ?_
    | with_reducible refine Pr_bind (fun x => x) ?_ (fun x hx => ?_)
    | with_reducible refine Pr_bind (fun x => x.2) ?_ (fun x hx => ?_)
    | with_reducible refine Pr_bind (fun x => x.2.2) ?_ (fun x hx => ?_)
    | with_reducible refine Pr_bind (fun x => x.2.2.2) ?_ (fun x hx => ?_)
    | with_reducible refine Pr_bind (fun x => x.2.2.2.2) ?_ (fun x hx => ?_)
    | with_reducible refine Pr_bindN (fun x => ?_)
    | with_reducible refine Ag.up ?_ (by unfold PM; omega)
    | with_reducible refine Ag.cp ?_ (by unfold PM; omega)
    | assumption
    | exact Ag.rf
theorem fr_X12_known {M m : MM} {p1 : Int} (h : Ag PM m M) : Pr PM M (fun (y : Int × MM) => y.2) (f_X12_known m p1) := by
  unfold f_X12_known
  repeat' first
    | with_reducible refine Pr_some ?_
    | with_reducible refine Pr_gd ?_
    | with_reducible refine Pr_ite ?_ ?_
    | with_reducible refine Pr_bM ?_ (fun m hm => ?_)
    | with_reducible refine Pr_bI (fun x => ?_)
    | with_reducible refine Pr_gH (fun b hb => ?_)
    | with_reducible refine Pr_bS (fun x => x) ?_ (fun x hx => ?_)
    | with_reducible refine Pr_bS (fun x => x.2) ?_ (fun x hx => ?_)
    | with_reducible refine Pr_bS (fun x => x.2.2) ?_ (fun x hx => ?_)
    | with_reducible refine Pr_bS (fun x => x.2.2.2) ?_ (fun x hx => ?_)
    | with_reducible refine Pr_bS (fun x => x.2.2.2.2) ?_ (fun x hx => ?_)
    | with_reducible refine Pr_bS (fun _ => M) ?_ (fun x hx => ?_)
    | with_reducible refine Pr_lp (fun x => x) (fun x hx => ?_) _ _ ?_
    | with_reducible refine Pr_lp (fun x => x.2) (fun x hx => ?_) _ _ ?_
    | with_reducible refine Pr_lp (fun x => x.2.2) (fun x hx => ?_) _ _ ?_
    | with_reducible refine Pr_lp (fun x => x.2.2.2) (fun x hx => ?_) _ _ ?_
    | with_reducible refine Pr_lp (fun x => x.2.2.2.2) (fun x hx => ?_) _ _ ?_
    | with_reducible refine Pr_lp (fun _ => M) (fun x hx => ?_) _ _ ?_
    | with_reducible refine Pr_bind (fun x => x) ?_ (fun x hx => ?_)
    | with_reducible refine Pr_bind (fun x => x.2) ?_ (fun x hx => ?_)
    | with_reducible refine Pr_bind (fun x => x.2.2) ?_ (fun x hx => ?_)
    | with_reducible refine Pr_bind (fun x => x.2.2.2) ?_ (fun x hx => ?_)
    | with_reducible refine Pr_bind (fun x => x.2.2.2.2) ?_ (fun x hx => ?_)
    | with_reducible refine Pr_bindN (fun x => ?_)
    | with_reducible refine Ag.up ?_ (by unfold PM; omega)
    | with_reducible refine Ag.cp ?_ (by unfold PM; omega)
    | assumption
    | exact Ag.rf
theorem fr_X12_fits {M m : MM} {p1 : Int} {p2 : Int} (h : Ag PM m M) : Pr PM M (fun (y : Int × MM) => y.2) (f_X12_fits m p1 p2) := by
  unfold f_X12_fits
  repeat' first
    | with_reducible refine Pr_some ?_
    | with_reducible refine fr_X12_atFirst ?_
    | with_reducible refine fr_X12_plainTried ?_
    | with_reducible refine fr_X12_goOn ?_
    | with_reducible refine Pr_gd ?_
    | with_reducible refine Pr_ite ?_ ?_
    | with_reducible refine Pr_bM ?_ (fun m hm => ?_)
    | with_reducible refine Pr_bI (fun x => ?_)
    | with_reducible refine Pr_gH (fun b hb => ?_)
    | with_reducible refine Pr_bS (fun x => x) ?_ (fun x hx => ?_)
    | with_reducible refine Pr_bS (fun x => x.2) ?_ (fun x hx => ?_)
    | with_reducible refine Pr_bS (fun x => x.2.2) ?_ (fun x hx => ?_)
    | with_reducible refine Pr_bS (fun x => x.2.2.2) ?_ (fun x hx => ?_)
    | with_reducible refine Pr_bS (fun x => x.2.2.2.2) ?_ (fun x hx => ?_)
    | with_reducible refine Pr_bS (fun _ => M) ?_ (fun x hx => ?_)
    | with_reducible refine Pr_lp (fun x => x) (fun x hx => ?_) _ _ ?_
    | with_reducible refine Pr_lp (fun x => x.2) (fun x hx => ?_) _ _ ?_
    | with_reducible refine Pr_lp (fun x => x.2.2) (fun x hx => ?_) _ _ ?_
    | with_reducible refine Pr_lp (fun x => x.2.2.2) (fun x hx => ?_) _ _ ?_
    | with_reducible refine Pr_lp (fun x => x.2.2.2.2) (fun x hx => ?_) _ _ ?_
    | with_reducible refine Pr_lp (fun _ => M) (fun x hx => ?_) _ _ ?_
    | with_reducible refine Pr_bind (fun x => x) ?_ (fun x hx => ?_)
    | with_reducible refine Pr_bind (fun x => x.2) ?_ (fun x hx => ?_)
    | with_reducible refine Pr_bind (fun x => x.2.2) ?_ (fun x hx => ?_)
    | with_reducible refine Pr_bind (fun x => x.2.2.2) ?_ (fun x hx => ?_)
    | with_reducible refine Pr_bind (fun x => x.2.2.2.2) ?_ (fun x hx => ?_)
    | with_reducible refine Pr_bindN (fun x => ?_)
    | with_reducible refine Ag.up ?_ (by unfold PM; omega)
    | with_reducible refine Ag.cp ?_ (by unfold PM; omega)
    | assumption
    | exact Ag.rf
theorem fr_X12_number1 {M m : MM} {p1 : Int} (h : Ag PM m M) : Pr PM M (fun (y : Int × MM) => y.2) (f_X12_number1 m p1) := by
  unfold f_X12_number1
  repeat' first
    | with_reducible refine Pr_some ?_
    | with_reducible refine Pr_gd ?_
    | with_reducible refine Pr_ite ?_ ?_
    | with_reducible refine Pr_bM ?_ (fun m hm => ?_)
    | with_reducible refine Pr_bI (fun x => ?_)
    | with_reducible refine Pr_gH (fun b hb => ?_)
    | with_reducible refine Pr_bS (fun x => x) ?_ (fun x hx => ?_)
    | with_reducible refine Pr_bS (fun x => x.2) ?_ (fun x hx => ?_)
    | with_reducible refine Pr_bS (fun x => x.2.2) ?_ (fun x hx => ?_)
    | with_reducible refine Pr_bS (fun x => x.2.2.2) ?_ (fun x hx => ?_)
    | with_reducible refine Pr_bS (fun x => x.2.2.2.2) ?_ (fun x hx => ?_)
    | with_reducible refine Pr_bS (fun _ => M) ?_ (fun x hx => ?_)
    | with_reducible refine Pr_lp (fun x => x) (fun x hx => ?_) _ _ ?_
    | with_reducible refine Pr_lp (fun x => x.2) (fun x hx => ?_) _ _ ?_
    | with_reducible refine Pr_lp (fun x => x.2.2) (fun x hx => ?_) _ _ ?_
    | with_reducible refine Pr_lp (fun x => x.2.2.2) (fun x hx => ?_) _ _ ?_
    | with_reducible refine Pr_lp (fun x => x.2.2.2.2) (fun x hx => ?_) _ _ ?_
    | with_reducible refine Pr_lp (fun _ => M) (fun x hx => ?_) _ _ ?_
    | with_reducible refine Pr_bind (fun x => x) ?_ (fun x hx => ?_)
    | with_reducible refine Pr_bind (fun x => x.2) ?_ (fun x hx => ?_)
    | with_reducible refine Pr_bind (fun x => x.2.2) ?_ (fun x hx => ?_)
    | with_reducible refine Pr_bind (fun x => x.2.2.2) ?_ (fun x hx => ?_)
    | with_reducible refine Pr_bind (fun x => x.2.2.2.2) ?_ (fun x hx => ?_)
    | with_reducible refine Pr_bindN (fun x => ?_)
    | with_reducible refine Ag.up ?_ (by unfold PM; omega)
    | with_reducible refine Ag.cp ?_ (by unfold PM; omega)
    | assumption
    | exact Ag.rf
theorem fr_X12_tried {M m : MM} {p1 : Int} {p2 : Int} {p3 : Int} (h : Ag PM m M) : Pr PM M (fun (y : Int × MM) => y.2) (f_X12_tried m p1 p2 p3) := by
  unfold f_X12_tried
  repeat' first
    | with_reducible refine Pr_some ?_
    | with_reducible refine fr_X12_layTried ?_
    | with_reducible refine fr_X12_goMany ?_
    | with_reducible refine fr_X12_plainTried ?_
    | with_reducible refine Pr_gd ?_
    | with_reducible refine Pr_ite ?_ ?_
    | with_reducible refine Pr_bM ?_ (fun m hm => ?_)
    | with_reducible refine Pr_bI (fun x => ?_)
    | with_reducible refine Pr_gH (fun b hb => ?_)
    | with_reducible refine Pr_bS (fun x => x) ?_ (fun x hx => ?_)
    | with_reducible refine Pr_bS (fun x => x.2) ?_ (fun x hx => ?_)
    | with_reducible refine Pr_bS (fun x => x.2.2) ?_ (fun x hx => ?_)
    | with_reducible refine Pr_bS (fun x => x.2.2.2) ?_ (fun x hx => ?_)
    | with_reducible refine Pr_bS (fun x => x.2.2.2.2) ?_ (fun x hx => ?_)
    | with_reducible refine Pr_bS (fun _ => M) ?_ (fun x hx => ?_)
    | with_reducible refine Pr_lp (fun x => x) (fun x hx => ?_) _ _ ?_
    | with_reducible refine Pr_lp (fun x => x.2) (fun x hx => ?_) _ _ ?_
    | with_reducible refine Pr_lp (fun x => x.2.2) (fun x hx => ?_) _ _ ?_
    | with_reducible refine Pr_lp (fun x => x.2.2.2) (fun x hx => ?_) _ _ ?_
    | with_reducible refine Pr_lp (fun x => x.2.2.2.2) (fun x hx => ?_) _ _ ?_
    | with_reducible refine Pr_lp (fun _ => M) (fun x hx => ?_) _ _ ?_
    | with_reducible refine Pr_bind (fun x => x) ?_ (fun x hx => ?_)
    | with_reducible refine Pr_bind (fun x => x.2) ?_ (fun x hx => ?_)
    | with_reducible refine Pr_bind (fun x => x.2.2) ?_ (fun x hx => ?_)
    | with_reducible refine Pr_bind (fun x => x.2.2.2) ?_ (fun x hx => ?_)
    | with_reducible refine Pr_bind (fun x => x.2.2.2.2) ?_ (fun x hx => ?_)
    | with_reducible refine Pr_bindN (fun x => ?_)
    | with_reducible refine Ag.up ?_ (by unfold PM; omega)
    | with_reducible refine Ag.cp ?_ (by unfold PM; omega)
    | assumption
    | exact Ag.rf
theorem fr_X12_take {M m : MM} {a1 n1 : Nat} {p2 : Int} (h : Ag PM m M) (ha1 : 88 ≤ a1 ∧ a1 < 139) : Pr PM M (fun (y : MM) => y) (f_X12_take m a1 n1 p2) := by
  unfold f_X12_take
  repeat' first
    | with_reducible refine Pr_some ?_
    | with_reducible refine Pr_gd ?_
    | with_reducible refine Pr_ite ?_ ?_
    | with_reducible refine Pr_bM ?_ (fun m hm => ?_)
    | with_reducible refine Pr_bI (fun x => ?_)
    | with_reducible refine Pr_gH (fun b hb => ?_)
    | with_reducible refine Pr_bS (fun x => x) ?_ (fun x hx => ?_)
    | with_reducible refine Pr_bS (fun x => x.2) ?_ (fun x hx => ?_)
    | with_reducible refine Pr_bS (fun x => x.2.2) ?_ (fun x hx => ?_)
    | with_reducible refine Pr_bS (fun x => x.2.2.2) ?_ (fun x hx => ?_)
    | with_reducible refine Pr_bS (fun x => x.2.2.2.2) ?_ (fun x hx => ?_)
    | with_reducible refine Pr_bS (fun _ => M) ?_ (fun x hx => ?_)
    | with_reducible refine Pr_lp (fun x => x) (fun x hx => ?_) _ _ ?_
    | with_reducible refine Pr_lp (fun x => x.2) (fun x hx => ?_) _ _ ?_
    | with_reducible refine Pr_lp (fun x => x.2.2) (fun x hx => ?_) _ _ ?_
    | with_reducible refine Pr_lp (fun x => x.2.2.2) (fun x hx => ?_) _ _ ?_
    | with_reducible refine Pr_lp (fun x => x.2.2.2.2) (fun x hx => ?_) _ _ ?_
    | with_reducible refine Pr_lp (fun _ => M) (fun x hx => ?_) _ _ ?_
    | with_reducible refine Pr_bind (fun x => x) ?_ (fun x hx => ?_)
    | with_reducible refine Pr_bind (fun x => x.2) ?_ (fun x hx => ?_)
    | with_reducible refine Pr_bind (fun x => x.2.2) ?_ (fun x hx => ?_)
    | with_reducible refine Pr_bind (fun x => x.2.2.2) ?_ (fun x hx => ?_)
    | with_reducible refine Pr_bind (fun x => x.2.2.2.2) ?_ (fun x hx => ?_)
    | with_reducible refine Pr_bindN (fun x => ?_)
    | with_reducible refine Ag.up ?_ (by unfold PM; omega)
    | with_reducible refine Ag.cp ?_ (by unfold PM; omega)
    | assumption
    | exact Ag.rf
theorem fr_X12_undo {M m : MM}  (h : Ag PM m M) : Pr PM M (fun (y : Int × MM) => y.2) (f_X12_undo m) := by
  unfold f_X12_undo
  repeat' first
    | with_reducible refine Pr_some ?_
    | with_reducible refine fr_X12_take ?_ (by omega)
    | with_reducible refine Pr_gd ?_
    | with_reducible refine Pr_ite ?_ ?_
    | with_reducible refine Pr_bM ?_ (fun m hm => ?_)
    | with_reducible refine Pr_bI (fun x => ?_)
    | with_reducible refine Pr_gH (fun b hb => ?_)
    | with_reducible refine Pr_bS (fun x => x) ?_ (fun x hx => ?_)
    | with_reducible refine Pr_bS (fun x => x.2) ?_ (fun x hx => ?_)
    | with_reducible refine Pr_bS (fun x => x.2.2) ?_ (fun x hx => ?_)
    | with_reducible refine Pr_bS (fun x => x.2.2.2) ?_ (fun x hx => ?_)
    | with_reducible refine Pr_bS (fun x => x.2.2.2.2) ?_ (fun x hx => ?_)
    | with_reducible refine Pr_bS (fun _ => M) ?_ (fun x hx => ?_)
    | with_reducible refine Pr_lp (fun x => x) (fun x hx => ?_) _ _ ?_
    | with_reducible refine Pr_lp (fun x => x.2) (fun x hx => ?_) _ _ ?_
    | with_reducible refine Pr_lp (fun x => x.2.2) (fun x hx => ?_) _ _ ?_
    | with_reducible refine Pr_lp (fun x => x.2.2.2) (fun x hx => ?_) _ _ ?_
    | with_reducible refine Pr_lp (fun x => x.2.2.2.2) (fun x hx => ?_) _ _ ?_
    | with_reducible refine Pr_lp (fun _ => M) (fun x hx => ?_) _ _ ?_
    | with_reducible refine Pr_bind (fun x => x) ?_ (fun x hx => ?_)
    | with_reducible refine Pr_bind (fun x => x.2) ?_ (fun x hx => ?_)
    | with_reducible refine Pr_bind (fun x => x.2.2) ?_ (fun x hx => ?_)
    | with_reducible refine Pr_bind (fun x => x.2.2.2) ?_ (fun x hx => ?_)
    | with_reducible refine Pr_bind (fun x => x.2.2.2.2) ?_ (fun x hx => ?_)
    | with_reducible refine Pr_bindN (fun x => ?_)
    | with_reducible refine Ag.up ?_ (by unfold PM; omega)
    | with_reducible refine Ag.cp ?_ (by unfold PM; omega)
    | assumption
    | exact Ag.rf
theorem fr_X12_keep {M m : MM}  (h : Ag PM m M) : Pr PM M (fun (y : Int × MM) => y.2) (f_X12_keep m) := by
  unfold f_X12_keep
  repeat' first
    | with_reducible refine Pr_some ?_
    | with_reducible refine fr_X12_put ?_ (by omega)
    | with_reducible refine Pr_gd ?_
    | with_reducible refine Pr_ite ?_ ?_
    | with_reducible refine Pr_bM ?_ (fun m hm => ?_)
    | with_reducible refine Pr_bI (fun x => ?_)
    | with_reducible refine Pr_gH (fun b hb => ?_)
    | with_reducible refine Pr_bS (fun x => x) ?_ (fun x hx => ?_)
    | with_reducible refine Pr_bS (fun x => x.2) ?_ (fun x hx => ?_)
    | with_reducible refine Pr_bS (fun x => x.2.2) ?_ (fun x hx => ?_)
    | with_reducible refine Pr_bS (fun x => x.2.2.2) ?_ (fun x hx => ?_)
    | with_reducible refine Pr_bS (fun x => x.2.2.2.2) ?_ (fun x hx => ?_)
    | with_reducible refine Pr_bS (fun _ => M) ?_ (fun x hx => ?_)
    | with_reducible refine Pr_lp (fun x => x) (fun x hx => ?_) _ _ ?_
    | with_reducible refine Pr_lp (fun x => x.2) (fun x hx => ?_) _ _ ?_
    | with_reducible refine Pr_lp (fun x => x.2.2) (fun x hx => ?_) _ _ ?_
    | with_reducible refine Pr_lp (fun x => x.2.2.2) (fun x hx => ?_) _ _ ?_
    | with_reducible refine Pr_lp (fun x => x.2.2.2.2) (fun x hx => ?_) _ _ ?_
    | with_reducible refine Pr_lp (fun _ => M) (fun x hx => ?_) _ _ ?_
    | with_reducible refine Pr_bind (fun x => x) ?_ (fun x hx => ?_)
    | with_reducible refine Pr_bind (fun x => x.2) ?_ (fun x hx => ?_)
    | with_reducible refine Pr_bind (fun x => x.2.2) ?_ (fun x hx => ?_)
    | with_reducible refine Pr_bind (fun x => x.2.2.2) ?_ (fun x hx => ?_)
    | with_reducible refine Pr_bind (fun x => x.2.2.2.2) ?_ (fun x hx => ?_)
    | with_reducible refine Pr_bindN (fun x => ?_)
    | with_reducible refine Ag.up ?_ (by unfold PM; omega)
    | with_reducible refine Ag.cp ?_ (by unfold PM; omega)
    | assumption
    | exact Ag.rf
theorem fr_X12_back {M m : MM}  (h : Ag PM m M) : Pr PM M (fun (y : Int × MM) => y.2) (f_X12_back m) := by
  unfold f_X12_back
  repeat' first
    | with_reducible refine Pr_some ?_
    | with_reducible refine fr_X12_take ?_ (by omega)
    | with_reducible refine Pr_gd ?_
    | with_reducible refine Pr_ite ?_ ?_
    | with_reducible refine Pr_bM ?_ (fun m hm => ?_)
    | with_reducible refine Pr_bI (fun x => ?_)
    | with_reducible refine Pr_gH (fun b hb => ?_)
    | with_reducible refine Pr_bS (fun x => x) ?_ (fun x hx => ?_)
    | with_reducible refine Pr_bS (fun x => x.2) ?_ (fun x hx => ?_)
    | with_reducible refine Pr_bS (fun x => x.2.2) ?_ (fun x hx => ?_)
    | with_reducible refine Pr_bS (fun x => x.2.2.2) ?_ (fun x hx => ?_)
    | with_reducible refine Pr_bS (fun x => x.2.2.2.2) ?_ (fun x hx => ?_)
    | with_reducible refine Pr_bS (fun _ => M) ?_ (fun x hx => ?_)
    | with_reducible refine Pr_lp (fun x => x) (fun x hx => ?_) _ _ ?_
    | with_reducible refine Pr_lp (fun x => x.2) (fun x hx => ?_) _ _ ?_
    | with_reducible refine Pr_lp (fun x => x.2.2) (fun x hx => ?_) _ _ ?_
    | with_reducible refine Pr_lp (fun x => x.2.2.2) (fun x hx => ?_) _ _ ?_
    | with_reducible refine Pr_lp (fun x => x.2.2.2.2) (fun x hx => ?_) _ _ ?_
    | with_reducible refine Pr_lp (fun _ => M) (fun x hx => ?_) _ _ ?_
    | with_reducible refine Pr_bind (fun x => x) ?_ (fun x hx => ?_)
    | with_reducible refine Pr_bind (fun x => x.2) ?_ (fun x hx => ?_)
    | with_reducible refine Pr_bind (fun x => x.2.2) ?_ (fun x hx => ?_)
    | with_reducible refine Pr_bind (fun x => x.2.2.2) ?_ (fun x hx => ?_)
    | with_reducible refine Pr_bind (fun x => x.2.2.2.2) ?_ (fun x hx => ?_)
    | with_reducible refine Pr_bindN (fun x => ?_)
    | with_reducible refine Ag.up ?_ (by unfold PM; omega)
    | with_reducible refine Ag.cp ?_ (by unfold PM; omega)
    | assumption
    | exact Ag.rf

theorem wm_L_102 : Cond.methodLink RL 102 yX12_best ∈ TS := inT8 202 (by decide +kernel) (by decide +kernel)
theorem wm_L_103 : Cond.methodLink RL 103 yX11_cheap ∈ TS := inT5 99 (by decide +kernel) (by decide +kernel)
theorem wm_L_106 : Cond.methodLink RL 106 yX12_cheap ∈ TS := inT8 206 (by decide +kernel) (by decide +kernel)
theorem wm_L_107 : Cond.methodLink RL 107 yX11_hears ∈ TS := inT5 104 (by decide +kernel) (by decide +kernel)
theorem wm_L_110 : Cond.methodLink RL 110 yX12_hears ∈ TS := inT8 210 (by decide +kernel) (by decide +kernel)
theorem wm_L_111 : Cond.methodLink RL 111 yX11_onAgain ∈ TS := inT5 108 (by decide +kernel) (by decide +kernel)
theorem wm_L_114 : Cond.methodLink RL 114 yX12_onAgain ∈ TS := inT8 214 (by decide +kernel) (by decide +kernel)
theorem wm_L_115 : Cond.methodLink RL 115 yX11_night ∈ TS := inT5 112 (by decide +kernel) (by decide +kernel)
theorem wm_L_118 : Cond.methodLink RL 118 yX12_night ∈ TS := inT8 218 (by decide +kernel) (by decide +kernel)
theorem wm_L_119 : Cond.methodLink RL 119 yX11_swings ∈ TS := inT5 43 (by decide +kernel) (by decide +kernel)
theorem wm_L_122 : Cond.methodLink RL 122 yX12_swings ∈ TS := inT8 223 (by decide +kernel) (by decide +kernel)
theorem wm_L_123 : Cond.methodLink RL 123 yX11_degree ∈ TS := inT5 121 (by decide +kernel) (by decide +kernel)
theorem wm_L_126 : Cond.methodLink RL 126 yX12_degree ∈ TS := inT8 227 (by decide +kernel) (by decide +kernel)
theorem wm_L_127 : Cond.methodLink RL 127 yX11_learn ∈ TS := inT5 47 (by decide +kernel) (by decide +kernel)
theorem wm_L_130 : Cond.methodLink RL 130 yX12_learn ∈ TS := inT8 235 (by decide +kernel) (by decide +kernel)
theorem wm_L_131 : Cond.methodLink RL 131 yX11_rests ∈ TS := inT5 144 (by decide +kernel) (by decide +kernel)
theorem wm_L_134 : Cond.methodLink RL 134 yX12_rests ∈ TS := inT9 19 (by decide +kernel) (by decide +kernel)
theorem wm_L_135 : Cond.methodLink RL 135 yX11_rest ∈ TS := inT5 166 (by decide +kernel) (by decide +kernel)
theorem wm_L_138 : Cond.methodLink RL 138 yX12_rest ∈ TS := inT9 41 (by decide +kernel) (by decide +kernel)
theorem wm_L_139 : Cond.methodLink RL 139 yX11_givesIn ∈ TS := inT5 130 (by decide +kernel) (by decide +kernel)
theorem wm_L_142 : Cond.methodLink RL 142 yX12_givesIn ∈ TS := inT9 45 (by decide +kernel) (by decide +kernel)
theorem wm_L_143 : Cond.methodLink RL 143 yX11_crossest ∈ TS := inT4 130 (by decide +kernel) (by decide +kernel)
theorem wm_L_146 : Cond.methodLink RL 146 yX12_crossest ∈ TS := inT9 53 (by decide +kernel) (by decide +kernel)
theorem wm_L_147 : Cond.methodLink RL 147 yX11_turnsOf ∈ TS := inT5 51 (by decide +kernel) (by decide +kernel)
theorem wm_L_150 : Cond.methodLink RL 150 yX12_turnsOf ∈ TS := inT8 239 (by decide +kernel) (by decide +kernel)
theorem wm_L_151 : Cond.methodLink RL 151 yX11_strip ∈ TS := inT5 126 (by decide +kernel) (by decide +kernel)
theorem wm_L_154 : Cond.methodLink RL 154 yX12_strip ∈ TS := inT8 231 (by decide +kernel) (by decide +kernel)
theorem wm_L_155 : Cond.methodLink RL 155 yX11_spread ∈ TS := inT4 134 (by decide +kernel) (by decide +kernel)
theorem wm_L_158 : Cond.methodLink RL 158 yX12_spread ∈ TS := inT9 3 (by decide +kernel) (by decide +kernel)
theorem wm_L_159 : Cond.methodLink RL 159 yX11_apart ∈ TS := inT5 55 (by decide +kernel) (by decide +kernel)
theorem wm_L_162 : Cond.methodLink RL 162 yX12_apart ∈ TS := inT9 15 (by decide +kernel) (by decide +kernel)
theorem wm_L_163 : Cond.methodLink RL 163 yX11_feels ∈ TS := inT5 59 (by decide +kernel) (by decide +kernel)
theorem wm_L_166 : Cond.methodLink RL 166 yX12_feels ∈ TS := inT9 11 (by decide +kernel) (by decide +kernel)
theorem wm_L_167 : Cond.methodLink RL 167 yX11_wear ∈ TS := inT5 170 (by decide +kernel) (by decide +kernel)
theorem wm_L_171 : Cond.methodLink RL 171 yX12_wear ∈ TS := inT9 57 (by decide +kernel) (by decide +kernel)
theorem wm_L_172 : Cond.methodLink RL 172 yX11_strike ∈ TS := inT5 178 (by decide +kernel) (by decide +kernel)
theorem wm_L_175 : Cond.methodLink RL 175 yX12_strike ∈ TS := inT9 65 (by decide +kernel) (by decide +kernel)
theorem wm_L_176 : Cond.methodLink RL 176 yX11_known ∈ TS := inT5 186 (by decide +kernel) (by decide +kernel)
theorem wm_L_179 : Cond.methodLink RL 179 yX12_known ∈ TS := inT9 69 (by decide +kernel) (by decide +kernel)
theorem wm_L_180 : Cond.methodLink RL 180 yX11_lately ∈ TS := inT5 190 (by decide +kernel) (by decide +kernel)
theorem wm_L_183 : Cond.methodLink RL 183 yX12_lately ∈ TS := inT9 73 (by decide +kernel) (by decide +kernel)
theorem wm_L_184 : Cond.methodLink RL 184 yX11_chance ∈ TS := inT5 63 (by decide +kernel) (by decide +kernel)
theorem wm_L_187 : Cond.methodLink RL 187 yX12_chance ∈ TS := inT9 89 (by decide +kernel) (by decide +kernel)
theorem wm_L_188 : Cond.methodLink RL 188 yX11_tried ∈ TS := inT5 67 (by decide +kernel) (by decide +kernel)
theorem wm_L_191 : Cond.methodLink RL 191 yX12_tried ∈ TS := inT9 101 (by decide +kernel) (by decide +kernel)
theorem wm_L_192 : Cond.methodLink RL 192 yX11_undo ∈ TS := inT5 10 (by decide +kernel) (by decide +kernel)
theorem wm_L_195 : Cond.methodLink RL 195 yX12_undo ∈ TS := inT9 105 (by decide +kernel) (by decide +kernel)
theorem wm_L_196 : Cond.methodLink RL 196 yX11_keep ∈ TS := inT5 18 (by decide +kernel) (by decide +kernel)
theorem wm_L_199 : Cond.methodLink RL 199 yX12_keep ∈ TS := inT9 113 (by decide +kernel) (by decide +kernel)
theorem wm_L_200 : Cond.methodLink RL 200 yX11_back ∈ TS := inT5 26 (by decide +kernel) (by decide +kernel)
theorem wm_L_203 : Cond.methodLink RL 203 yX12_back ∈ TS := inT9 117 (by decide +kernel) (by decide +kernel)
theorem wm_L_204 : Cond.methodLink RL 204 yX11_count ∈ TS := inT4 146 (by decide +kernel) (by decide +kernel)
theorem wm_L_207 : Cond.methodLink RL 207 yX12_count ∈ TS := inT9 121 (by decide +kernel) (by decide +kernel)
theorem wm_L_21 : Cond.methodLink RL 21 yX11_feed ∈ TS := inT3 115 (by decide +kernel) (by decide +kernel)
theorem wm_L_25 : Cond.methodLink RL 25 yX12_feed ∈ TS := inT7 140 (by decide +kernel) (by decide +kernel)
theorem wm_L_26 : Cond.methodLink RL 26 yX11_text ∈ TS := inT3 123 (by decide +kernel) (by decide +kernel)
theorem wm_L_30 : Cond.methodLink RL 30 yX12_text ∈ TS := inT7 144 (by decide +kernel) (by decide +kernel)
theorem wm_L_31 : Cond.methodLink RL 31 yX11_fault ∈ TS := inT4 60 (by decide +kernel) (by decide +kernel)
theorem wm_L_34 : Cond.methodLink RL 34 yX12_fault ∈ TS := inT8 30 (by decide +kernel) (by decide +kernel)
theorem wm_L_35 : Cond.methodLink RL 35 yX11_named ∈ TS := inT4 64 (by decide +kernel) (by decide +kernel)
theorem wm_L_38 : Cond.methodLink RL 38 yX12_named ∈ TS := inT8 34 (by decide +kernel) (by decide +kernel)
theorem wm_L_39 : Cond.methodLink RL 39 yL_person ∈ TS := inT5 216 (by decide +kernel) (by decide +kernel)
theorem wm_L_44 : Cond.methodLink RL 44 yX12_person ∈ TS := inT8 38 (by decide +kernel) (by decide +kernel)
theorem wm_L_45 : Cond.methodLink RL 45 yX12_thrown ∈ TS := inT7 136 (by decide +kernel) (by decide +kernel)
theorem wm_L_49 : Cond.methodLink RL 49 yX11_room ∈ TS := inT4 69 (by decide +kernel) (by decide +kernel)
theorem wm_L_52 : Cond.methodLink RL 52 yX12_room ∈ TS := inT8 54 (by decide +kernel) (by decide +kernel)
theorem wm_L_53 : Cond.methodLink RL 53 yX11_out ∈ TS := inT4 81 (by decide +kernel) (by decide +kernel)
theorem wm_L_56 : Cond.methodLink RL 56 yX12_out ∈ TS := inT8 66 (by decide +kernel) (by decide +kernel)
theorem wm_L_57 : Cond.methodLink RL 57 yX11_law ∈ TS := inT4 90 (by decide +kernel) (by decide +kernel)
theorem wm_L_61 : Cond.methodLink RL 61 yX12_law ∈ TS := inT8 77 (by decide +kernel) (by decide +kernel)
theorem wm_L_62 : Cond.methodLink RL 62 yX11_set ∈ TS := inT4 166 (by decide +kernel) (by decide +kernel)
theorem wm_L_66 : Cond.methodLink RL 66 yX12_set ∈ TS := inT8 111 (by decide +kernel) (by decide +kernel)
theorem wm_L_67 : Cond.methodLink RL 67 yX11_hang ∈ TS := inT4 180 (by decide +kernel) (by decide +kernel)
theorem wm_L_70 : Cond.methodLink RL 70 yX12_hang ∈ TS := inT8 126 (by decide +kernel) (by decide +kernel)
theorem wm_L_71 : Cond.methodLink RL 71 yX11_candle ∈ TS := inT4 184 (by decide +kernel) (by decide +kernel)
theorem wm_L_75 : Cond.methodLink RL 75 yX12_candle ∈ TS := inT8 130 (by decide +kernel) (by decide +kernel)
theorem wm_L_76 : Cond.methodLink RL 76 yX11_jumper ∈ TS := inT4 188 (by decide +kernel) (by decide +kernel)
theorem wm_L_80 : Cond.methodLink RL 80 yX12_jumper ∈ TS := inT8 134 (by decide +kernel) (by decide +kernel)
theorem wm_L_81 : Cond.methodLink RL 81 yX11_go ∈ TS := inT4 192 (by decide +kernel) (by decide +kernel)
theorem wm_L_84 : Cond.methodLink RL 84 yX12_go ∈ TS := inT8 138 (by decide +kernel) (by decide +kernel)
theorem wm_L_85 : Cond.methodLink RL 85 yX11_ahead ∈ TS := inT5 30 (by decide +kernel) (by decide +kernel)
theorem wm_L_89 : Cond.methodLink RL 89 yX12_ahead ∈ TS := inT8 170 (by decide +kernel) (by decide +kernel)
theorem wm_L_90 : Cond.methodLink RL 90 yX11_soon ∈ TS := inT5 71 (by decide +kernel) (by decide +kernel)
theorem wm_L_93 : Cond.methodLink RL 93 yX12_soon ∈ TS := inT8 186 (by decide +kernel) (by decide +kernel)
theorem wm_L_94 : Cond.methodLink RL 94 yX11_quicker ∈ TS := inT5 91 (by decide +kernel) (by decide +kernel)
theorem wm_L_98 : Cond.methodLink RL 98 yX12_quicker ∈ TS := inT8 198 (by decide +kernel) (by decide +kernel)
theorem wm_L_99 : Cond.methodLink RL 99 yX11_best ∈ TS := inT5 95 (by decide +kernel) (by decide +kernel)
/-- what the law's helper does: 0 and the answer into out, 1 or 2 for what was thrown (y.1 of the first) -/
def f_Lperson (M : MM) (p1 p2 : Int) : Option (Int × MM) :=
(f_X11_isPerson M p1).bind fun a =>
if a = 0 then some (1, M) else
gH (M 0 3) fun b1 =>
gd (0 ≤ p1 ∧ p1 < (5 : Int)) <|
if p2 = 0 then some (0, upM M 139 0 (M (b1 + 8) p1.toNat)) else
if p2 = 1 then some (0, upM M 139 0 (M (b1 + 9) p1.toNat)) else
if p2 = 2 then some (0, upM M 139 0 (M (b1 + 10) p1.toNat)) else
if p2 = 3 then some (0, upM M 139 0 (M (b1 + 11) p1.toNat)) else
if p2 = 4 then (f_X0_feltBy M 54 p1).bind fun v => some (0, upM M 139 0 v) else
if p2 = 5 then some (0, upM M 139 0 (M 58 p1.toNat)) else
if p2 = 6 then (if M 56 p1.toNat = 0 then some (0, upM M 139 0 0) else some (0, upM M 139 0 1)) else
some (2, M)
theorem S_osp {E : EE} {md : MD} {mc ms : Nat} {pc pc' : Nat} {L L' : List (Option CV)} {S : List CV} {w : CW} {k n k' n' : Nat} {X Y : Type} {t : (Option CV → CW → Prop) → X → Prop} {o1 : Option Y} {kk : Y → Option X} (fs : Y → List CV) (fw : Y → CW) (h : ∀ y, o1 = some y → Sp E md mc ms pc L S w k n pc' L' (fs y) (fw y) k' n') (hk : ∀ y, Seg E md mc ms (kk y) t pc' L' (fs y) (fw y) k' n') : Seg E md mc ms (o1.bind kk) t pc L S w k n := by
  intro K x hx ht
  obtain ⟨y, hy, hz⟩ := Option.bind_eq_some_iff.mp hx
  exact h y hy K (hk y K x hz ht)
/-- what is owed of it: the law's call at 402 -/
def PersOK : Prop := ∀ (E : EE) (sh : List (Nat × Nat)) (R : RM) (M : MM) (p1 p2 : Int) (L : List (Option CV)) (k n : Nat), E.1.stackTraces = false → Ext sh → Links R → sh[139]? = some (53, 1) → k + 2 ≤ 1166 → n + 16 ≤ 12426 → ∀ y, f_Lperson M p1 p2 = some y → Sp E m_law 1166 12426 402 L [rV 139, iV p2, iV p1, rV 0] (sh, false, R, M) k n 405 L [iV y.1] (sh, false, R, y.2) (k + 2) (n + 16)
def f_lawStep (L : Nat) (xs : Nat → Int32) (x1 : Int × MM) : Option ((Int × MM) ⊕ (Int × MM)) :=
if (w32 ((L : Int) - 6)) < x1.1 then
(some (Sum.inr (1, x1.2)))
else
gd (0 ≤ x1.1 ∧ x1.1 < (L : Int)) <|
if (and32 ((xs (x1.1).toNat).toInt) 63) = 0 then
(gd (0 ≤ w32 (x1.1 + 1) ∧ w32 (x1.1 + 1) < (L : Int)) <|
gd (0 ≤ w32 (x1.1 + 2) ∧ w32 (x1.1 + 2) < (L : Int)) <|
gd (0 ≤ w32 (x1.1 + 3) ∧ w32 (x1.1 + 3) < (L : Int)) <|
gd (0 ≤ w32 (x1.1 + 4) ∧ w32 (x1.1 + 4) < (L : Int)) <|
gd (0 ≤ w32 (x1.1 + 5) ∧ w32 (x1.1 + 5) < (L : Int)) <|
(f_X11_feed x1.2 ((xs (w32 (x1.1 + 1)).toNat).toInt) ((xs (w32 (x1.1 + 2)).toNat).toInt) ((xs (w32 (x1.1 + 3)).toNat).toInt) ((xs (w32 (x1.1 + 4)).toNat).toInt) ((xs (w32 (x1.1 + 5)).toNat).toInt)).bind fun x10 =>
gd (0 ≤ w32 (x1.1 + 1) ∧ w32 (x1.1 + 1) < (L : Int)) <|
gd (0 ≤ w32 (x1.1 + 2) ∧ w32 (x1.1 + 2) < (L : Int)) <|
gd (0 ≤ w32 (x1.1 + 3) ∧ w32 (x1.1 + 3) < (L : Int)) <|
gd (0 ≤ w32 (x1.1 + 4) ∧ w32 (x1.1 + 4) < (L : Int)) <|
gd (0 ≤ w32 (x1.1 + 5) ∧ w32 (x1.1 + 5) < (L : Int)) <|
(f_X12_feed x10.2 ((xs (w32 (x1.1 + 1)).toNat).toInt) ((xs (w32 (x1.1 + 2)).toNat).toInt) ((xs (w32 (x1.1 + 3)).toNat).toInt) ((xs (w32 (x1.1 + 4)).toNat).toInt) ((xs (w32 (x1.1 + 5)).toNat).toInt)).bind fun x16 =>
if x10.1 = x16.1 then
(some (Sum.inl (w32 (x1.1 + 6), x16.2)))
else
some (Sum.inr (0, x16.2)))
else
if (and32 ((xs (x1.1).toNat).toInt) 63) = 1 then
(gd (0 ≤ w32 (x1.1 + 1) ∧ w32 (x1.1 + 1) < (L : Int)) <|
(f_X11_text x1.2 ((xs (w32 (x1.1 + 1)).toNat).toInt)).bind fun x20 =>
gd (0 ≤ w32 (x1.1 + 1) ∧ w32 (x1.1 + 1) < (L : Int)) <|
(f_X12_text x20.2 ((xs (w32 (x1.1 + 1)).toNat).toInt)).bind fun x22 =>
if x20.1 = x22.1 then
(some (Sum.inl (w32 (x1.1 + 6), x22.2)))
else
some (Sum.inr (0, x22.2)))
else
if (and32 ((xs (x1.1).toNat).toInt) 63) = 2 then
(gd (0 ≤ w32 (x1.1 + 1) ∧ w32 (x1.1 + 1) < (L : Int)) <|
(f_X11_fault x1.2 ((xs (w32 (x1.1 + 1)).toNat).toInt)).bind fun x26 =>
gd (0 ≤ w32 (x1.1 + 1) ∧ w32 (x1.1 + 1) < (L : Int)) <|
(f_X12_fault x1.2 ((xs (w32 (x1.1 + 1)).toNat).toInt)).bind fun x28 =>
if x26 = x28.1 then
(some (Sum.inl (w32 (x1.1 + 6), x28.2)))
else
some (Sum.inr (0, x28.2)))
else
if (and32 ((xs (x1.1).toNat).toInt) 63) = 3 then
(gd (0 ≤ w32 (x1.1 + 1) ∧ w32 (x1.1 + 1) < (L : Int)) <|
gd (0 ≤ w32 (x1.1 + 2) ∧ w32 (x1.1 + 2) < (L : Int)) <|
(f_X11_named x1.2 ((xs (w32 (x1.1 + 1)).toNat).toInt) ((xs (w32 (x1.1 + 2)).toNat).toInt)).bind fun x33 =>
gd (0 ≤ w32 (x1.1 + 1) ∧ w32 (x1.1 + 1) < (L : Int)) <|
gd (0 ≤ w32 (x1.1 + 2) ∧ w32 (x1.1 + 2) < (L : Int)) <|
(f_X12_named x1.2 ((xs (w32 (x1.1 + 1)).toNat).toInt) ((xs (w32 (x1.1 + 2)).toNat).toInt)).bind fun x36 =>
if x33 = x36.1 then
(some (Sum.inl (w32 (x1.1 + 6), x36.2)))
else
some (Sum.inr (0, x36.2)))
else
if (and32 ((xs (x1.1).toNat).toInt) 63) = 4 then
(gd (0 ≤ w32 (x1.1 + 1) ∧ w32 (x1.1 + 1) < (L : Int)) <|
gd (0 ≤ w32 (x1.1 + 2) ∧ w32 (x1.1 + 2) < (L : Int)) <|
(f_Lperson x1.2 ((xs (w32 (x1.1 + 1)).toNat).toInt) ((xs (w32 (x1.1 + 2)).toNat).toInt)).bind fun x41 =>
gd (0 ≤ w32 (x1.1 + 1) ∧ w32 (x1.1 + 1) < (L : Int)) <|
gd (0 ≤ w32 (x1.1 + 2) ∧ w32 (x1.1 + 2) < (L : Int)) <|
(f_X12_person x41.2 ((xs (w32 (x1.1 + 1)).toNat).toInt) ((xs (w32 (x1.1 + 2)).toNat).toInt)).bind fun x44 =>
(f_X12_thrown x44.2).bind fun x45 =>
if x45 = x41.1 then
(if x41.1 = 0 then
(if (cmpI (x44.2 139 0) x44.1) = 0 then
(some (Sum.inl (w32 (x1.1 + 6), x44.2)))
else
some (Sum.inr (0, x44.2)))
else
some (Sum.inl (w32 (x1.1 + 6), x44.2)))
else
some (Sum.inr (0, x44.2)))
else
if (and32 ((xs (x1.1).toNat).toInt) 63) = 5 then
(gd (0 ≤ w32 (x1.1 + 1) ∧ w32 (x1.1 + 1) < (L : Int)) <|
gd (0 ≤ w32 (x1.1 + 2) ∧ w32 (x1.1 + 2) < (L : Int)) <|
(f_X11_room x1.2 ((xs (w32 (x1.1 + 1)).toNat).toInt) ((xs (w32 (x1.1 + 2)).toNat).toInt)).bind fun x52 =>
gd (0 ≤ w32 (x1.1 + 1) ∧ w32 (x1.1 + 1) < (L : Int)) <|
gd (0 ≤ w32 (x1.1 + 2) ∧ w32 (x1.1 + 2) < (L : Int)) <|
(f_X12_room x1.2 ((xs (w32 (x1.1 + 1)).toNat).toInt) ((xs (w32 (x1.1 + 2)).toNat).toInt)).bind fun x55 =>
if x52 = x55.1 then
(some (Sum.inl (w32 (x1.1 + 6), x55.2)))
else
some (Sum.inr (0, x55.2)))
else
if (and32 ((xs (x1.1).toNat).toInt) 63) = 6 then
(gd (0 ≤ w32 (x1.1 + 1) ∧ w32 (x1.1 + 1) < (L : Int)) <|
(f_X11_out x1.2 ((xs (w32 (x1.1 + 1)).toNat).toInt)).bind fun x59 =>
gd (0 ≤ w32 (x1.1 + 1) ∧ w32 (x1.1 + 1) < (L : Int)) <|
(f_X12_out x1.2 ((xs (w32 (x1.1 + 1)).toNat).toInt)).bind fun x61 =>
if x59 = x61.1 then
(some (Sum.inl (w32 (x1.1 + 6), x61.2)))
else
some (Sum.inr (0, x61.2)))
else
if (and32 ((xs (x1.1).toNat).toInt) 63) = 7 then
(gd (0 ≤ w32 (x1.1 + 1) ∧ w32 (x1.1 + 1) < (L : Int)) <|
gd (0 ≤ w32 (x1.1 + 2) ∧ w32 (x1.1 + 2) < (L : Int)) <|
(f_X11_law x1.2 ((xs (w32 (x1.1 + 1)).toNat).toInt) ((xs (w32 (x1.1 + 2)).toNat).toInt)).bind fun x66 =>
gd (0 ≤ w32 (x1.1 + 1) ∧ w32 (x1.1 + 1) < (L : Int)) <|
gd (0 ≤ w32 (x1.1 + 2) ∧ w32 (x1.1 + 2) < (L : Int)) <|
(f_X12_law x66.2 ((xs (w32 (x1.1 + 1)).toNat).toInt) ((xs (w32 (x1.1 + 2)).toNat).toInt)).bind fun x69 =>
if (cmpI x66.1 x69.1) = 0 then
(some (Sum.inl (w32 (x1.1 + 6), x69.2)))
else
some (Sum.inr (0, x69.2)))
else
if (and32 ((xs (x1.1).toNat).toInt) 63) = 8 then
(gd (0 ≤ w32 (x1.1 + 1) ∧ w32 (x1.1 + 1) < (L : Int)) <|
(f_X11_set x1.2 ((xs (w32 (x1.1 + 1)).toNat).toInt)).bind fun x73 =>
gd (0 ≤ w32 (x1.1 + 1) ∧ w32 (x1.1 + 1) < (L : Int)) <|
(f_X12_set x73.2 ((xs (w32 (x1.1 + 1)).toNat).toInt)).bind fun x75 =>
if x73.1 = x75.1 then
(some (Sum.inl (w32 (x1.1 + 6), x75.2)))
else
some (Sum.inr (0, x75.2)))
else
if (and32 ((xs (x1.1).toNat).toInt) 63) = 9 then
(gd (0 ≤ w32 (x1.1 + 1) ∧ w32 (x1.1 + 1) < (L : Int)) <|
(f_X11_hang x1.2 ((xs (w32 (x1.1 + 1)).toNat).toInt)).bind fun x79 =>
gd (0 ≤ w32 (x1.1 + 1) ∧ w32 (x1.1 + 1) < (L : Int)) <|
(f_X12_hang x79.2 ((xs (w32 (x1.1 + 1)).toNat).toInt)).bind fun x81 =>
if x79.1 = x81.1 then
(some (Sum.inl (w32 (x1.1 + 6), x81.2)))
else
some (Sum.inr (0, x81.2)))
else
if (and32 ((xs (x1.1).toNat).toInt) 63) = 10 then
(gd (0 ≤ w32 (x1.1 + 1) ∧ w32 (x1.1 + 1) < (L : Int)) <|
((if ((xs (w32 (x1.1 + 1)).toNat).toInt) = 0 then
(some 0)
else
some 1) : Option (Int)).bind fun x86 =>
(f_X11_candle x1.2 x86).bind fun x87 =>
gd (0 ≤ w32 (x1.1 + 1) ∧ w32 (x1.1 + 1) < (L : Int)) <|
((if ((xs (w32 (x1.1 + 1)).toNat).toInt) = 0 then
(some 0)
else
some 1) : Option (Int)).bind fun x90 =>
(f_X12_candle x87.2 x90).bind fun x91 =>
if x87.1 = x91.1 then
(some (Sum.inl (w32 (x1.1 + 6), x91.2)))
else
some (Sum.inr (0, x91.2)))
else
if (and32 ((xs (x1.1).toNat).toInt) 63) = 11 then
(gd (0 ≤ w32 (x1.1 + 1) ∧ w32 (x1.1 + 1) < (L : Int)) <|
gd (0 ≤ w32 (x1.1 + 2) ∧ w32 (x1.1 + 2) < (L : Int)) <|
((if ((xs (w32 (x1.1 + 2)).toNat).toInt) = 0 then
(some 0)
else
some 1) : Option (Int)).bind fun x97 =>
(f_X11_jumper x1.2 ((xs (w32 (x1.1 + 1)).toNat).toInt) x97).bind fun x98 =>
gd (0 ≤ w32 (x1.1 + 1) ∧ w32 (x1.1 + 1) < (L : Int)) <|
gd (0 ≤ w32 (x1.1 + 2) ∧ w32 (x1.1 + 2) < (L : Int)) <|
((if ((xs (w32 (x1.1 + 2)).toNat).toInt) = 0 then
(some 0)
else
some 1) : Option (Int)).bind fun x102 =>
(f_X12_jumper x98.2 ((xs (w32 (x1.1 + 1)).toNat).toInt) x102).bind fun x103 =>
if x98.1 = x103.1 then
(some (Sum.inl (w32 (x1.1 + 6), x103.2)))
else
some (Sum.inr (0, x103.2)))
else
if (and32 ((xs (x1.1).toNat).toInt) 63) = 12 then
(gd (0 ≤ w32 (x1.1 + 1) ∧ w32 (x1.1 + 1) < (L : Int)) <|
(f_X11_go x1.2 ((xs (w32 (x1.1 + 1)).toNat).toInt)).bind fun x107 =>
gd (0 ≤ w32 (x1.1 + 1) ∧ w32 (x1.1 + 1) < (L : Int)) <|
(f_X12_go x107.2 ((xs (w32 (x1.1 + 1)).toNat).toInt)).bind fun x109 =>
if x107.1 = x109.1 then
(some (Sum.inl (w32 (x1.1 + 6), x109.2)))
else
some (Sum.inr (0, x109.2)))
else
if (and32 ((xs (x1.1).toNat).toInt) 63) = 13 then
(gd (0 ≤ w32 (x1.1 + 1) ∧ w32 (x1.1 + 1) < (L : Int)) <|
gd (0 ≤ w32 (x1.1 + 2) ∧ w32 (x1.1 + 2) < (L : Int)) <|
gd (0 ≤ w32 (x1.1 + 3) ∧ w32 (x1.1 + 3) < (L : Int)) <|
(f_X11_ahead x1.2 ((xs (w32 (x1.1 + 1)).toNat).toInt) ((xs (w32 (x1.1 + 2)).toNat).toInt) ((xs (w32 (x1.1 + 3)).toNat).toInt)).bind fun x115 =>
gd (0 ≤ w32 (x1.1 + 1) ∧ w32 (x1.1 + 1) < (L : Int)) <|
gd (0 ≤ w32 (x1.1 + 2) ∧ w32 (x1.1 + 2) < (L : Int)) <|
gd (0 ≤ w32 (x1.1 + 3) ∧ w32 (x1.1 + 3) < (L : Int)) <|
(f_X12_ahead x115.2 ((xs (w32 (x1.1 + 1)).toNat).toInt) ((xs (w32 (x1.1 + 2)).toNat).toInt) ((xs (w32 (x1.1 + 3)).toNat).toInt)).bind fun x119 =>
if x115.1 = x119.1 then
(some (Sum.inl (w32 (x1.1 + 6), x119.2)))
else
some (Sum.inr (0, x119.2)))
else
if (and32 ((xs (x1.1).toNat).toInt) 63) = 14 then
(gd (0 ≤ w32 (x1.1 + 1) ∧ w32 (x1.1 + 1) < (L : Int)) <|
gd (0 ≤ w32 (x1.1 + 2) ∧ w32 (x1.1 + 2) < (L : Int)) <|
gd (0 ≤ w32 (x1.1 + 3) ∧ w32 (x1.1 + 3) < (L : Int)) <|
(f_X11_soon x1.2 ((xs (w32 (x1.1 + 1)).toNat).toInt) ((xs (w32 (x1.1 + 2)).toNat).toInt) ((xs (w32 (x1.1 + 3)).toNat).toInt)).bind fun x125 =>
gd (0 ≤ w32 (x1.1 + 1) ∧ w32 (x1.1 + 1) < (L : Int)) <|
gd (0 ≤ w32 (x1.1 + 2) ∧ w32 (x1.1 + 2) < (L : Int)) <|
gd (0 ≤ w32 (x1.1 + 3) ∧ w32 (x1.1 + 3) < (L : Int)) <|
(f_X12_soon x125.2 ((xs (w32 (x1.1 + 1)).toNat).toInt) ((xs (w32 (x1.1 + 2)).toNat).toInt) ((xs (w32 (x1.1 + 3)).toNat).toInt)).bind fun x129 =>
if x125.1 = x129.1 then
(some (Sum.inl (w32 (x1.1 + 6), x129.2)))
else
some (Sum.inr (0, x129.2)))
else
if (and32 ((xs (x1.1).toNat).toInt) 63) = 15 then
(gd (0 ≤ w32 (x1.1 + 1) ∧ w32 (x1.1 + 1) < (L : Int)) <|
gd (0 ≤ w32 (x1.1 + 2) ∧ w32 (x1.1 + 2) < (L : Int)) <|
gd (0 ≤ w32 (x1.1 + 3) ∧ w32 (x1.1 + 3) < (L : Int)) <|
gd (0 ≤ w32 (x1.1 + 4) ∧ w32 (x1.1 + 4) < (L : Int)) <|
(f_X11_quicker x1.2 ((xs (w32 (x1.1 + 1)).toNat).toInt) ((xs (w32 (x1.1 + 2)).toNat).toInt) ((xs (w32 (x1.1 + 3)).toNat).toInt) ((xs (w32 (x1.1 + 4)).toNat).toInt)).bind fun x136 =>
gd (0 ≤ w32 (x1.1 + 1) ∧ w32 (x1.1 + 1) < (L : Int)) <|
gd (0 ≤ w32 (x1.1 + 2) ∧ w32 (x1.1 + 2) < (L : Int)) <|
gd (0 ≤ w32 (x1.1 + 3) ∧ w32 (x1.1 + 3) < (L : Int)) <|
gd (0 ≤ w32 (x1.1 + 4) ∧ w32 (x1.1 + 4) < (L : Int)) <|
(f_X12_quicker x136.2 ((xs (w32 (x1.1 + 1)).toNat).toInt) ((xs (w32 (x1.1 + 2)).toNat).toInt) ((xs (w32 (x1.1 + 3)).toNat).toInt) ((xs (w32 (x1.1 + 4)).toNat).toInt)).bind fun x141 =>
if x136.1 = x141.1 then
(some (Sum.inl (w32 (x1.1 + 6), x141.2)))
else
some (Sum.inr (0, x141.2)))
else
if (and32 ((xs (x1.1).toNat).toInt) 63) = 16 then
(gd (0 ≤ w32 (x1.1 + 1) ∧ w32 (x1.1 + 1) < (L : Int)) <|
gd (0 ≤ w32 (x1.1 + 2) ∧ w32 (x1.1 + 2) < (L : Int)) <|
(f_X11_best x1.2 ((xs (w32 (x1.1 + 1)).toNat).toInt) ((xs (w32 (x1.1 + 2)).toNat).toInt)).bind fun x146 =>
gd (0 ≤ w32 (x1.1 + 1) ∧ w32 (x1.1 + 1) < (L : Int)) <|
gd (0 ≤ w32 (x1.1 + 2) ∧ w32 (x1.1 + 2) < (L : Int)) <|
(f_X12_best x146.2 ((xs (w32 (x1.1 + 1)).toNat).toInt) ((xs (w32 (x1.1 + 2)).toNat).toInt)).bind fun x149 =>
if x146.1 = x149.1 then
(some (Sum.inl (w32 (x1.1 + 6), x149.2)))
else
some (Sum.inr (0, x149.2)))
else
if (and32 ((xs (x1.1).toNat).toInt) 63) = 17 then
(gd (0 ≤ w32 (x1.1 + 1) ∧ w32 (x1.1 + 1) < (L : Int)) <|
gd (0 ≤ w32 (x1.1 + 2) ∧ w32 (x1.1 + 2) < (L : Int)) <|
(f_X11_cheap x1.2 ((xs (w32 (x1.1 + 1)).toNat).toInt) ((xs (w32 (x1.1 + 2)).toNat).toInt)).bind fun x154 =>
gd (0 ≤ w32 (x1.1 + 1) ∧ w32 (x1.1 + 1) < (L : Int)) <|
gd (0 ≤ w32 (x1.1 + 2) ∧ w32 (x1.1 + 2) < (L : Int)) <|
(f_X12_cheap x154.2 ((xs (w32 (x1.1 + 1)).toNat).toInt) ((xs (w32 (x1.1 + 2)).toNat).toInt)).bind fun x157 =>
if x154.1 = x157.1 then
(some (Sum.inl (w32 (x1.1 + 6), x157.2)))
else
some (Sum.inr (0, x157.2)))
else
if (and32 ((xs (x1.1).toNat).toInt) 63) = 18 then
(gd (0 ≤ w32 (x1.1 + 1) ∧ w32 (x1.1 + 1) < (L : Int)) <|
(f_X11_hears x1.2 ((xs (w32 (x1.1 + 1)).toNat).toInt)).bind fun x161 =>
gd (0 ≤ w32 (x1.1 + 1) ∧ w32 (x1.1 + 1) < (L : Int)) <|
(f_X12_hears x161.2 ((xs (w32 (x1.1 + 1)).toNat).toInt)).bind fun x163 =>
if x161.1 = x163.1 then
(some (Sum.inl (w32 (x1.1 + 6), x163.2)))
else
some (Sum.inr (0, x163.2)))
else
if (and32 ((xs (x1.1).toNat).toInt) 63) = 19 then
(gd (0 ≤ w32 (x1.1 + 1) ∧ w32 (x1.1 + 1) < (L : Int)) <|
gd (0 ≤ w32 (x1.1 + 2) ∧ w32 (x1.1 + 2) < (L : Int)) <|
gd (0 ≤ w32 (x1.1 + 3) ∧ w32 (x1.1 + 3) < (L : Int)) <|
(f_X11_onAgain x1.2 ((xs (w32 (x1.1 + 1)).toNat).toInt) ((xs (w32 (x1.1 + 2)).toNat).toInt) ((xs (w32 (x1.1 + 3)).toNat).toInt)).bind fun x169 =>
gd (0 ≤ w32 (x1.1 + 1) ∧ w32 (x1.1 + 1) < (L : Int)) <|
gd (0 ≤ w32 (x1.1 + 2) ∧ w32 (x1.1 + 2) < (L : Int)) <|
gd (0 ≤ w32 (x1.1 + 3) ∧ w32 (x1.1 + 3) < (L : Int)) <|
(f_X12_onAgain x169.2 ((xs (w32 (x1.1 + 1)).toNat).toInt) ((xs (w32 (x1.1 + 2)).toNat).toInt) ((xs (w32 (x1.1 + 3)).toNat).toInt)).bind fun x173 =>
if x169.1 = x173.1 then
(some (Sum.inl (w32 (x1.1 + 6), x173.2)))
else
some (Sum.inr (0, x173.2)))
else
if (and32 ((xs (x1.1).toNat).toInt) 63) = 20 then
(gd (0 ≤ w32 (x1.1 + 1) ∧ w32 (x1.1 + 1) < (L : Int)) <|
(f_X11_night x1.2 ((xs (w32 (x1.1 + 1)).toNat).toInt)).bind fun x177 =>
gd (0 ≤ w32 (x1.1 + 1) ∧ w32 (x1.1 + 1) < (L : Int)) <|
(f_X12_night x177.2 ((xs (w32 (x1.1 + 1)).toNat).toInt)).bind fun x179 =>
if x177.1 = x179.1 then
(some (Sum.inl (w32 (x1.1 + 6), x179.2)))
else
some (Sum.inr (0, x179.2)))
else
if (and32 ((xs (x1.1).toNat).toInt) 63) = 21 then
(gd (0 ≤ w32 (x1.1 + 1) ∧ w32 (x1.1 + 1) < (L : Int)) <|
(f_X11_swings x1.2 ((xs (w32 (x1.1 + 1)).toNat).toInt)).bind fun x183 =>
gd (0 ≤ w32 (x1.1 + 1) ∧ w32 (x1.1 + 1) < (L : Int)) <|
(f_X12_swings x183.2 ((xs (w32 (x1.1 + 1)).toNat).toInt)).bind fun x185 =>
if x183.1 = x185.1 then
(some (Sum.inl (w32 (x1.1 + 6), x185.2)))
else
some (Sum.inr (0, x185.2)))
else
if (and32 ((xs (x1.1).toNat).toInt) 63) = 22 then
(gd (0 ≤ w32 (x1.1 + 1) ∧ w32 (x1.1 + 1) < (L : Int)) <|
(f_X11_degree x1.2 ((xs (w32 (x1.1 + 1)).toNat).toInt)).bind fun x189 =>
gd (0 ≤ w32 (x1.1 + 1) ∧ w32 (x1.1 + 1) < (L : Int)) <|
(f_X12_degree x189.2 ((xs (w32 (x1.1 + 1)).toNat).toInt)).bind fun x191 =>
if x189.1 = x191.1 then
(some (Sum.inl (w32 (x1.1 + 6), x191.2)))
else
some (Sum.inr (0, x191.2)))
else
if (and32 ((xs (x1.1).toNat).toInt) 63) = 23 then
(gd (0 ≤ w32 (x1.1 + 1) ∧ w32 (x1.1 + 1) < (L : Int)) <|
(f_X11_learn x1.2 ((xs (w32 (x1.1 + 1)).toNat).toInt)).bind fun x195 =>
gd (0 ≤ w32 (x1.1 + 1) ∧ w32 (x1.1 + 1) < (L : Int)) <|
(f_X12_learn x1.2 ((xs (w32 (x1.1 + 1)).toNat).toInt)).bind fun x197 =>
if x195 = x197.1 then
(some (Sum.inl (w32 (x1.1 + 6), x197.2)))
else
some (Sum.inr (0, x197.2)))
else
if (and32 ((xs (x1.1).toNat).toInt) 63) = 24 then
(gd (0 ≤ w32 (x1.1 + 1) ∧ w32 (x1.1 + 1) < (L : Int)) <|
gd (0 ≤ w32 (x1.1 + 2) ∧ w32 (x1.1 + 2) < (L : Int)) <|
(f_X11_rests x1.2 ((xs (w32 (x1.1 + 1)).toNat).toInt) ((xs (w32 (x1.1 + 2)).toNat).toInt)).bind fun x202 =>
gd (0 ≤ w32 (x1.1 + 1) ∧ w32 (x1.1 + 1) < (L : Int)) <|
gd (0 ≤ w32 (x1.1 + 2) ∧ w32 (x1.1 + 2) < (L : Int)) <|
(f_X12_rests x1.2 ((xs (w32 (x1.1 + 1)).toNat).toInt) ((xs (w32 (x1.1 + 2)).toNat).toInt)).bind fun x205 =>
if x202 = x205.1 then
(some (Sum.inl (w32 (x1.1 + 6), x205.2)))
else
some (Sum.inr (0, x205.2)))
else
if (and32 ((xs (x1.1).toNat).toInt) 63) = 25 then
(gd (0 ≤ w32 (x1.1 + 1) ∧ w32 (x1.1 + 1) < (L : Int)) <|
gd (0 ≤ w32 (x1.1 + 2) ∧ w32 (x1.1 + 2) < (L : Int)) <|
gd (0 ≤ w32 (x1.1 + 3) ∧ w32 (x1.1 + 3) < (L : Int)) <|
(f_X11_rest x1.2 ((xs (w32 (x1.1 + 1)).toNat).toInt) ((xs (w32 (x1.1 + 2)).toNat).toInt) ((xs (w32 (x1.1 + 3)).toNat).toInt)).bind fun x211 =>
gd (0 ≤ w32 (x1.1 + 1) ∧ w32 (x1.1 + 1) < (L : Int)) <|
gd (0 ≤ w32 (x1.1 + 2) ∧ w32 (x1.1 + 2) < (L : Int)) <|
gd (0 ≤ w32 (x1.1 + 3) ∧ w32 (x1.1 + 3) < (L : Int)) <|
(f_X12_rest x1.2 ((xs (w32 (x1.1 + 1)).toNat).toInt) ((xs (w32 (x1.1 + 2)).toNat).toInt) ((xs (w32 (x1.1 + 3)).toNat).toInt)).bind fun x215 =>
if x211 = x215.1 then
(some (Sum.inl (w32 (x1.1 + 6), x215.2)))
else
some (Sum.inr (0, x215.2)))
else
if (and32 ((xs (x1.1).toNat).toInt) 63) = 26 then
(gd (0 ≤ w32 (x1.1 + 1) ∧ w32 (x1.1 + 1) < (L : Int)) <|
gd (0 ≤ w32 (x1.1 + 2) ∧ w32 (x1.1 + 2) < (L : Int)) <|
(f_X11_givesIn x1.2 ((xs (w32 (x1.1 + 1)).toNat).toInt) ((xs (w32 (x1.1 + 2)).toNat).toInt)).bind fun x220 =>
gd (0 ≤ w32 (x1.1 + 1) ∧ w32 (x1.1 + 1) < (L : Int)) <|
gd (0 ≤ w32 (x1.1 + 2) ∧ w32 (x1.1 + 2) < (L : Int)) <|
(f_X12_givesIn x220.2 ((xs (w32 (x1.1 + 1)).toNat).toInt) ((xs (w32 (x1.1 + 2)).toNat).toInt)).bind fun x223 =>
if x220.1 = x223.1 then
(some (Sum.inl (w32 (x1.1 + 6), x223.2)))
else
some (Sum.inr (0, x223.2)))
else
if (and32 ((xs (x1.1).toNat).toInt) 63) = 27 then
((f_X11_crossest x1.2).bind fun x226 =>
(f_X12_crossest x1.2).bind fun x227 =>
if x226 = x227.1 then
(some (Sum.inl (w32 (x1.1 + 6), x227.2)))
else
some (Sum.inr (0, x227.2)))
else
if (and32 ((xs (x1.1).toNat).toInt) 63) = 28 then
(gd (0 ≤ w32 (x1.1 + 1) ∧ w32 (x1.1 + 1) < (L : Int)) <|
gd (0 ≤ w32 (x1.1 + 2) ∧ w32 (x1.1 + 2) < (L : Int)) <|
(f_X11_turnsOf x1.2 ((xs (w32 (x1.1 + 1)).toNat).toInt) ((xs (w32 (x1.1 + 2)).toNat).toInt)).bind fun x232 =>
gd (0 ≤ w32 (x1.1 + 1) ∧ w32 (x1.1 + 1) < (L : Int)) <|
gd (0 ≤ w32 (x1.1 + 2) ∧ w32 (x1.1 + 2) < (L : Int)) <|
(f_X12_turnsOf x232.2 ((xs (w32 (x1.1 + 1)).toNat).toInt) ((xs (w32 (x1.1 + 2)).toNat).toInt)).bind fun x235 =>
if x232.1 = x235.1 then
(some (Sum.inl (w32 (x1.1 + 6), x235.2)))
else
some (Sum.inr (0, x235.2)))
else
if (and32 ((xs (x1.1).toNat).toInt) 63) = 29 then
(gd (0 ≤ w32 (x1.1 + 1) ∧ w32 (x1.1 + 1) < (L : Int)) <|
gd (0 ≤ w32 (x1.1 + 2) ∧ w32 (x1.1 + 2) < (L : Int)) <|
(f_X11_strip x1.2 ((xs (w32 (x1.1 + 1)).toNat).toInt) ((xs (w32 (x1.1 + 2)).toNat).toInt)).bind fun x240 =>
gd (0 ≤ w32 (x1.1 + 1) ∧ w32 (x1.1 + 1) < (L : Int)) <|
gd (0 ≤ w32 (x1.1 + 2) ∧ w32 (x1.1 + 2) < (L : Int)) <|
(f_X12_strip x240.2 ((xs (w32 (x1.1 + 1)).toNat).toInt) ((xs (w32 (x1.1 + 2)).toNat).toInt)).bind fun x243 =>
if x240.1 = x243.1 then
(some (Sum.inl (w32 (x1.1 + 6), x243.2)))
else
some (Sum.inr (0, x243.2)))
else
if (and32 ((xs (x1.1).toNat).toInt) 63) = 30 then
((f_X11_spread x1.2).bind fun x246 =>
(f_X12_spread x1.2).bind fun x247 =>
if x246 = x247.1 then
(some (Sum.inl (w32 (x1.1 + 6), x247.2)))
else
some (Sum.inr (0, x247.2)))
else
if (and32 ((xs (x1.1).toNat).toInt) 63) = 31 then
(gd (0 ≤ w32 (x1.1 + 1) ∧ w32 (x1.1 + 1) < (L : Int)) <|
gd (0 ≤ w32 (x1.1 + 2) ∧ w32 (x1.1 + 2) < (L : Int)) <|
(f_X11_apart x1.2 ((xs (w32 (x1.1 + 1)).toNat).toInt) ((xs (w32 (x1.1 + 2)).toNat).toInt)).bind fun x252 =>
gd (0 ≤ w32 (x1.1 + 1) ∧ w32 (x1.1 + 1) < (L : Int)) <|
gd (0 ≤ w32 (x1.1 + 2) ∧ w32 (x1.1 + 2) < (L : Int)) <|
(f_X12_apart x252.2 ((xs (w32 (x1.1 + 1)).toNat).toInt) ((xs (w32 (x1.1 + 2)).toNat).toInt)).bind fun x255 =>
if x252.1 = x255.1 then
(some (Sum.inl (w32 (x1.1 + 6), x255.2)))
else
some (Sum.inr (0, x255.2)))
else
if (and32 ((xs (x1.1).toNat).toInt) 63) = 32 then
(gd (0 ≤ w32 (x1.1 + 1) ∧ w32 (x1.1 + 1) < (L : Int)) <|
gd (0 ≤ w32 (x1.1 + 2) ∧ w32 (x1.1 + 2) < (L : Int)) <|
(f_X11_feels x1.2 ((xs (w32 (x1.1 + 1)).toNat).toInt) ((xs (w32 (x1.1 + 2)).toNat).toInt)).bind fun x260 =>
gd (0 ≤ w32 (x1.1 + 1) ∧ w32 (x1.1 + 1) < (L : Int)) <|
gd (0 ≤ w32 (x1.1 + 2) ∧ w32 (x1.1 + 2) < (L : Int)) <|
(f_X12_feels x260.2 ((xs (w32 (x1.1 + 1)).toNat).toInt) ((xs (w32 (x1.1 + 2)).toNat).toInt)).bind fun x263 =>
if x260.1 = x263.1 then
(some (Sum.inl (w32 (x1.1 + 6), x263.2)))
else
some (Sum.inr (0, x263.2)))
else
if (and32 ((xs (x1.1).toNat).toInt) 63) = 33 then
(gd (0 ≤ w32 (x1.1 + 1) ∧ w32 (x1.1 + 1) < (L : Int)) <|
gd (0 ≤ w32 (x1.1 + 2) ∧ w32 (x1.1 + 2) < (L : Int)) <|
gd (0 ≤ w32 (x1.1 + 3) ∧ w32 (x1.1 + 3) < (L : Int)) <|
((if ((xs (w32 (x1.1 + 3)).toNat).toInt) = 0 then
(some 0)
else
some 1) : Option (Int)).bind fun x270 =>
(f_X11_wear x1.2 ((xs (w32 (x1.1 + 1)).toNat).toInt) ((xs (w32 (x1.1 + 2)).toNat).toInt) x270).bind fun x271 =>
gd (0 ≤ w32 (x1.1 + 1) ∧ w32 (x1.1 + 1) < (L : Int)) <|
gd (0 ≤ w32 (x1.1 + 2) ∧ w32 (x1.1 + 2) < (L : Int)) <|
gd (0 ≤ w32 (x1.1 + 3) ∧ w32 (x1.1 + 3) < (L : Int)) <|
((if ((xs (w32 (x1.1 + 3)).toNat).toInt) = 0 then
(some 0)
else
some 1) : Option (Int)).bind fun x276 =>
(f_X12_wear x271.2 ((xs (w32 (x1.1 + 1)).toNat).toInt) ((xs (w32 (x1.1 + 2)).toNat).toInt) x276).bind fun x277 =>
if x271.1 = x277.1 then
(some (Sum.inl (w32 (x1.1 + 6), x277.2)))
else
some (Sum.inr (0, x277.2)))
else
if (and32 ((xs (x1.1).toNat).toInt) 63) = 34 then
(gd (0 ≤ w32 (x1.1 + 1) ∧ w32 (x1.1 + 1) < (L : Int)) <|
(f_X11_strike x1.2 ((xs (w32 (x1.1 + 1)).toNat).toInt)).bind fun x281 =>
gd (0 ≤ w32 (x1.1 + 1) ∧ w32 (x1.1 + 1) < (L : Int)) <|
(f_X12_strike x281.2 ((xs (w32 (x1.1 + 1)).toNat).toInt)).bind fun x283 =>
if x281.1 = x283.1 then
(some (Sum.inl (w32 (x1.1 + 6), x283.2)))
else
some (Sum.inr (0, x283.2)))
else
if (and32 ((xs (x1.1).toNat).toInt) 63) = 35 then
(gd (0 ≤ w32 (x1.1 + 1) ∧ w32 (x1.1 + 1) < (L : Int)) <|
(f_X11_known x1.2 ((xs (w32 (x1.1 + 1)).toNat).toInt)).bind fun x287 =>
gd (0 ≤ w32 (x1.1 + 1) ∧ w32 (x1.1 + 1) < (L : Int)) <|
(f_X12_known x287.2 ((xs (w32 (x1.1 + 1)).toNat).toInt)).bind fun x289 =>
if x287.1 = x289.1 then
(some (Sum.inl (w32 (x1.1 + 6), x289.2)))
else
some (Sum.inr (0, x289.2)))
else
if (and32 ((xs (x1.1).toNat).toInt) 63) = 36 then
(gd (0 ≤ w32 (x1.1 + 1) ∧ w32 (x1.1 + 1) < (L : Int)) <|
(f_X11_lately x1.2 ((xs (w32 (x1.1 + 1)).toNat).toInt)).bind fun x293 =>
gd (0 ≤ w32 (x1.1 + 1) ∧ w32 (x1.1 + 1) < (L : Int)) <|
(f_X12_lately x293.2 ((xs (w32 (x1.1 + 1)).toNat).toInt)).bind fun x295 =>
if x293.1 = x295.1 then
(some (Sum.inl (w32 (x1.1 + 6), x295.2)))
else
some (Sum.inr (0, x295.2)))
else
if (and32 ((xs (x1.1).toNat).toInt) 63) = 37 then
(gd (0 ≤ w32 (x1.1 + 1) ∧ w32 (x1.1 + 1) < (L : Int)) <|
gd (0 ≤ w32 (x1.1 + 2) ∧ w32 (x1.1 + 2) < (L : Int)) <|
gd (0 ≤ w32 (x1.1 + 3) ∧ w32 (x1.1 + 3) < (L : Int)) <|
gd (0 ≤ w32 (x1.1 + 4) ∧ w32 (x1.1 + 4) < (L : Int)) <|
(f_X11_chance x1.2 ((xs (w32 (x1.1 + 1)).toNat).toInt) ((xs (w32 (x1.1 + 2)).toNat).toInt) ((xs (w32 (x1.1 + 3)).toNat).toInt) ((xs (w32 (x1.1 + 4)).toNat).toInt)).bind fun x302 =>
gd (0 ≤ w32 (x1.1 + 1) ∧ w32 (x1.1 + 1) < (L : Int)) <|
gd (0 ≤ w32 (x1.1 + 2) ∧ w32 (x1.1 + 2) < (L : Int)) <|
gd (0 ≤ w32 (x1.1 + 3) ∧ w32 (x1.1 + 3) < (L : Int)) <|
gd (0 ≤ w32 (x1.1 + 4) ∧ w32 (x1.1 + 4) < (L : Int)) <|
(f_X12_chance x302.2 ((xs (w32 (x1.1 + 1)).toNat).toInt) ((xs (w32 (x1.1 + 2)).toNat).toInt) ((xs (w32 (x1.1 + 3)).toNat).toInt) ((xs (w32 (x1.1 + 4)).toNat).toInt)).bind fun x307 =>
if x302.1 = x307.1 then
(some (Sum.inl (w32 (x1.1 + 6), x307.2)))
else
some (Sum.inr (0, x307.2)))
else
if (and32 ((xs (x1.1).toNat).toInt) 63) = 38 then
(gd (0 ≤ w32 (x1.1 + 1) ∧ w32 (x1.1 + 1) < (L : Int)) <|
gd (0 ≤ w32 (x1.1 + 2) ∧ w32 (x1.1 + 2) < (L : Int)) <|
gd (0 ≤ w32 (x1.1 + 3) ∧ w32 (x1.1 + 3) < (L : Int)) <|
(f_X11_tried x1.2 ((xs (w32 (x1.1 + 1)).toNat).toInt) ((xs (w32 (x1.1 + 2)).toNat).toInt) ((xs (w32 (x1.1 + 3)).toNat).toInt)).bind fun x313 =>
gd (0 ≤ w32 (x1.1 + 1) ∧ w32 (x1.1 + 1) < (L : Int)) <|
gd (0 ≤ w32 (x1.1 + 2) ∧ w32 (x1.1 + 2) < (L : Int)) <|
gd (0 ≤ w32 (x1.1 + 3) ∧ w32 (x1.1 + 3) < (L : Int)) <|
(f_X12_tried x313.2 ((xs (w32 (x1.1 + 1)).toNat).toInt) ((xs (w32 (x1.1 + 2)).toNat).toInt) ((xs (w32 (x1.1 + 3)).toNat).toInt)).bind fun x317 =>
if x313.1 = x317.1 then
(some (Sum.inl (w32 (x1.1 + 6), x317.2)))
else
some (Sum.inr (0, x317.2)))
else
if (and32 ((xs (x1.1).toNat).toInt) 63) = 39 then
((f_X11_undo x1.2).bind fun x320 =>
(f_X12_undo x320.2).bind fun x321 =>
if x320.1 = x321.1 then
(some (Sum.inl (w32 (x1.1 + 6), x321.2)))
else
some (Sum.inr (0, x321.2)))
else
if (and32 ((xs (x1.1).toNat).toInt) 63) = 40 then
((f_X11_keep x1.2).bind fun x324 =>
(f_X12_keep x324.2).bind fun x325 =>
if x324.1 = x325.1 then
(some (Sum.inl (w32 (x1.1 + 6), x325.2)))
else
some (Sum.inr (0, x325.2)))
else
if (and32 ((xs (x1.1).toNat).toInt) 63) = 41 then
((f_X11_back x1.2).bind fun x328 =>
(f_X12_back x328.2).bind fun x329 =>
if x328.1 = x329.1 then
(some (Sum.inl (w32 (x1.1 + 6), x329.2)))
else
some (Sum.inr (0, x329.2)))
else
if (and32 ((xs (x1.1).toNat).toInt) 63) = 42 then
(gd (0 ≤ w32 (x1.1 + 1) ∧ w32 (x1.1 + 1) < (L : Int)) <|
(f_X11_count x1.2 ((xs (w32 (x1.1 + 1)).toNat).toInt)).bind fun x333 =>
gd (0 ≤ w32 (x1.1 + 1) ∧ w32 (x1.1 + 1) < (L : Int)) <|
(f_X12_count x1.2 ((xs (w32 (x1.1 + 1)).toNat).toInt)).bind fun x335 =>
if x333 = x335.1 then
(some (Sum.inl (w32 (x1.1 + 6), x335.2)))
else
some (Sum.inr (0, x335.2)))
else
some (Sum.inl (w32 (x1.1 + 6), x1.2))
set_option maxRecDepth 8000 in
set_option maxHeartbeats 4000000 in
theorem s_lawStep {E : EE} {sh : List (Nat × Nat)} {R : RM} (hE : Ext sh) (hL : Links R) (hOut : sh[139]? = some (53, 1)) (hL3 : E.2.2.2.2.2.1 ≤ 3072) (hst : E.1.stackTraces = false) (hPO : PersOK) (x1 : Int × MM) : Seg E m_law 1166 12426 (f_lawStep E.2.2.2.2.2.1 E.2.2.2.2.2.2 x1) (fun K z => match z with
  | .inl y => GG E m_law 1166 12426 K 23 [some sV, some (rV 0), some (rV 88), some (rV 139), some (iV y.1), none, none] [] (sh, false, R, y.2) (140 + 2 * (min (y.1.toNat / 6) 512)) (4222 + 16 * (min (y.1.toNat / 6) 512))
  | .inr y => K (some (iV y.1)) (sh, false, R, y.2)) 23 [some sV, some (rV 0), some (rV 88), some (rV 139), some (iV x1.1), none, none] [] (sh, false, R, x1.2) (140 + 2 * (min (x1.1.toNat / 6) 512)) (4222 + 16 * (min (x1.1.toNat / 6) 512)) := by
  have hPers : ∀ {M : MM} {p1 p2 : Int} {L : List (Option CV)} {k n : Nat}, k + 2 ≤ 1166 → n + 16 ≤ 12426 → ∀ y, f_Lperson M p1 p2 = some y → Sp E m_law 1166 12426 402 L [rV 139, iV p2, iV p1, rV 0] (sh, false, R, M) k n 405 L [iV y.1] (sh, false, R, y.2) (k + 2) (n + 16) := fun {M p1 p2 L k n} h1 h2 => hPO E sh R M p1 p2 L k n hst hE hL hOut h1 h2
  have hLn : r32 (E.2.2.2.2.2.1 : Int) := by unfold r32; omega
  unfold f_lawStep
  refine Seg.step (pc' := 25) (I_iload dL_law_23 rfl) ?_
  refine Seg.step (pc' := 26) (I_aload_s (i := 0) dL_law_25 rfl rfl) ?_
  refine Seg.step (pc' := 27) (I_slen hLn dL_law_26) ?_
  refine Seg.step (pc' := 29) (I_bipush dL_law_27 (by decide) ⟨by decide, by decide⟩) ?_
  refine Seg.step (pc' := 30) (I_isub dL_law_29) ?_
  refine S_icmp_gt (tgt := 1749) dL_law_30 (by decide) (fun h2 => ?_) (fun h2 => ?_)
  · refine Seg.step (pc' := 1750) (I_iconst dL_law_1749 ⟨by decide, by decide⟩) ?_
    exact S_zret dL_law_1750 rfl (by decide) (by first | (show 140 + 2 * (min (x1.1.toNat / 6) 512) + 0 ≤ 1166; omega) | (show 140 + 2 * (min (x1.1.toNat / 6) 512) + 2 ≤ 1166; omega)) (by first | (show 4222 + 16 * (min (x1.1.toNat / 6) 512) + 0 ≤ 12426; omega) | (show 4222 + 16 * (min (x1.1.toNat / 6) 512) + 16 ≤ 12426; omega)) (fun K hK => hK)
  refine Seg.step (pc' := 34) (I_aload_s (i := 0) dL_law_33 rfl rfl) ?_
  refine Seg.step (pc' := 36) (I_iload dL_law_34 rfl) ?_
  refine S_gd fun h3 => ?_
  have hk9 : 140 + 2 * (min (x1.1.toNat / 6) 512) + 2 ≤ 1166 := by unfold w32 at *; omega
  have hn9 : 4222 + 16 * (min (x1.1.toNat / 6) 512) + 16 ≤ 12426 := by unfold w32 at *; omega
  refine Seg.step (pc' := 37) (I_sld h3 dL_law_36) ?_
  refine Seg.step (pc' := 39) (I_bipush dL_law_37 (by decide) ⟨by decide, by decide⟩) ?_
  refine Seg.step (pc' := 40) (I_iand dL_law_39) ?_
  refine S_ite (fun h4 => ?_) (fun h4 => ?_)
  · refine Seg.step (I_tsw (v := 0) (off := 188) (tgt := 228) dL_law_40 h4 (by decide) rfl (by decide)) ?_
    refine Seg.step (pc' := 229) (I_aload_n (i := 1) dL_law_228 rfl rfl) ?_
    refine Seg.step (pc' := 230) (I_aload_s (i := 0) dL_law_229 rfl rfl) ?_
    refine Seg.step (pc' := 232) (I_iload dL_law_230 rfl) ?_
    refine Seg.step (pc' := 233) (I_iconst dL_law_232 ⟨by decide, by decide⟩) ?_
    refine Seg.step (pc' := 234) (I_iadd dL_law_233) ?_
    refine S_gd fun h5 => ?_
    refine Seg.step (pc' := 235) (I_sld h5 dL_law_234) ?_
    refine Seg.step (pc' := 236) (I_aload_s (i := 0) dL_law_235 rfl rfl) ?_
    refine Seg.step (pc' := 238) (I_iload dL_law_236 rfl) ?_
    refine Seg.step (pc' := 239) (I_iconst dL_law_238 ⟨by decide, by decide⟩) ?_
    refine Seg.step (pc' := 240) (I_iadd dL_law_239) ?_
    refine S_gd fun h6 => ?_
    refine Seg.step (pc' := 241) (I_sld h6 dL_law_240) ?_
    refine Seg.step (pc' := 242) (I_aload_s (i := 0) dL_law_241 rfl rfl) ?_
    refine Seg.step (pc' := 244) (I_iload dL_law_242 rfl) ?_
    refine Seg.step (pc' := 245) (I_iconst dL_law_244 ⟨by decide, by decide⟩) ?_
    refine Seg.step (pc' := 246) (I_iadd dL_law_245) ?_
    refine S_gd fun h7 => ?_
    refine Seg.step (pc' := 247) (I_sld h7 dL_law_246) ?_
    refine Seg.step (pc' := 248) (I_aload_s (i := 0) dL_law_247 rfl rfl) ?_
    refine Seg.step (pc' := 250) (I_iload dL_law_248 rfl) ?_
    refine Seg.step (pc' := 251) (I_iconst dL_law_250 ⟨by decide, by decide⟩) ?_
    refine Seg.step (pc' := 252) (I_iadd dL_law_251) ?_
    refine S_gd fun h8 => ?_
    refine Seg.step (pc' := 253) (I_sld h8 dL_law_252) ?_
    refine Seg.step (pc' := 254) (I_aload_s (i := 0) dL_law_253 rfl rfl) ?_
    refine Seg.step (pc' := 256) (I_iload dL_law_254 rfl) ?_
    refine Seg.step (pc' := 257) (I_iconst dL_law_256 ⟨by decide, by decide⟩) ?_
    refine Seg.step (pc' := 258) (I_iadd dL_law_257) ?_
    refine S_gd fun h9 => ?_
    refine Seg.step (pc' := 259) (I_sld h9 dL_law_258) ?_
    refine S_callV5 (md' := m_X11_feed) (fun y => some (iV y.1)) (fun y => (sh, false, R, y.2)) (hE _ _ sk_11) ⟨by decide, rfl⟩ mm_X11_feed wm_L_21 ⟨rfl, rfl, by decide, by decide, by first | (show 140 + 2 * (min (x1.1.toNat / 6) 512) + 0 ≤ 1166; omega) | (show 140 + 2 * (min (x1.1.toNat / 6) 512) + 2 ≤ 1166; omega), by first | (show 4222 + 16 * (min (x1.1.toNat / 6) 512) + 0 ≤ 12426; omega) | (show 4222 + 16 * (min (x1.1.toNat / 6) 512) + 16 ≤ 12426; omega)⟩ (Nat.le_of_ble_eq_true rfl) dL_law_259 (fun y hy => c_X11_feed hE hL y hy) (fun x10 => ?_)
    refine Seg.step (pc' := 263) (I_aload_n (i := 2) dL_law_262 rfl rfl) ?_
    refine Seg.step (pc' := 264) (I_aload_s (i := 0) dL_law_263 rfl rfl) ?_
    refine Seg.step (pc' := 266) (I_iload dL_law_264 rfl) ?_
    refine Seg.step (pc' := 267) (I_iconst dL_law_266 ⟨by decide, by decide⟩) ?_
    refine Seg.step (pc' := 268) (I_iadd dL_law_267) ?_
    refine S_gd fun h11 => ?_
    refine Seg.step (pc' := 269) (I_sld h11 dL_law_268) ?_
    refine Seg.step (pc' := 270) (I_aload_s (i := 0) dL_law_269 rfl rfl) ?_
    refine Seg.step (pc' := 272) (I_iload dL_law_270 rfl) ?_
    refine Seg.step (pc' := 273) (I_iconst dL_law_272 ⟨by decide, by decide⟩) ?_
    refine Seg.step (pc' := 274) (I_iadd dL_law_273) ?_
    refine S_gd fun h12 => ?_
    refine Seg.step (pc' := 275) (I_sld h12 dL_law_274) ?_
    refine Seg.step (pc' := 276) (I_aload_s (i := 0) dL_law_275 rfl rfl) ?_
    refine Seg.step (pc' := 278) (I_iload dL_law_276 rfl) ?_
    refine Seg.step (pc' := 279) (I_iconst dL_law_278 ⟨by decide, by decide⟩) ?_
    refine Seg.step (pc' := 280) (I_iadd dL_law_279) ?_
    refine S_gd fun h13 => ?_
    refine Seg.step (pc' := 281) (I_sld h13 dL_law_280) ?_
    refine Seg.step (pc' := 282) (I_aload_s (i := 0) dL_law_281 rfl rfl) ?_
    refine Seg.step (pc' := 284) (I_iload dL_law_282 rfl) ?_
    refine Seg.step (pc' := 285) (I_iconst dL_law_284 ⟨by decide, by decide⟩) ?_
    refine Seg.step (pc' := 286) (I_iadd dL_law_285) ?_
    refine S_gd fun h14 => ?_
    refine Seg.step (pc' := 287) (I_sld h14 dL_law_286) ?_
    refine Seg.step (pc' := 288) (I_aload_s (i := 0) dL_law_287 rfl rfl) ?_
    refine Seg.step (pc' := 290) (I_iload dL_law_288 rfl) ?_
    refine Seg.step (pc' := 291) (I_iconst dL_law_290 ⟨by decide, by decide⟩) ?_
    refine Seg.step (pc' := 292) (I_iadd dL_law_291) ?_
    refine S_gd fun h15 => ?_
    refine Seg.step (pc' := 293) (I_sld h15 dL_law_292) ?_
    refine S_callV5 (md' := m_X12_feed) (fun y => some (iV y.1)) (fun y => (sh, false, R, y.2)) (hE _ _ sk_12) ⟨by decide, rfl⟩ mm_X12_feed wm_L_25 ⟨rfl, rfl, by decide, by decide, by first | (show 140 + 2 * (min (x1.1.toNat / 6) 512) + 0 ≤ 1166; omega) | (show 140 + 2 * (min (x1.1.toNat / 6) 512) + 2 ≤ 1166; omega), by first | (show 4222 + 16 * (min (x1.1.toNat / 6) 512) + 0 ≤ 12426; omega) | (show 4222 + 16 * (min (x1.1.toNat / 6) 512) + 16 ≤ 12426; omega)⟩ (Nat.le_of_ble_eq_true rfl) dL_law_293 (fun y hy => c_X12_feed hE hL y hy) (fun x16 => ?_)
    refine S_icmp_eq (tgt := 1743) dL_law_296 (by decide) (fun h17 => ?_) (fun h17 => ?_)
    · refine Seg.step (pc' := 1746) (I_iinc dL_law_1743 rfl (by decide) rfl) ?_
      refine Seg.step (pc' := 23) (I_goto (tgt := 23) dL_law_1746 (by decide)) ?_
      exact S_arr (fun K hK => GG.widen (by first | (show 140 + 2 * (min (x1.1.toNat / 6) 512) + 0 ≤ 140 + 2 * (min ((w32 (x1.1 + 6)).toNat / 6) 512); unfold w32 at *; omega) | (show 140 + 2 * (min (x1.1.toNat / 6) 512) + 2 ≤ 140 + 2 * (min ((w32 (x1.1 + 6)).toNat / 6) 512); unfold w32 at *; omega)) (by first | (show 4222 + 16 * (min (x1.1.toNat / 6) 512) + 0 ≤ 4222 + 16 * (min ((w32 (x1.1 + 6)).toNat / 6) 512); unfold w32 at *; omega) | (show 4222 + 16 * (min (x1.1.toNat / 6) 512) + 16 ≤ 4222 + 16 * (min ((w32 (x1.1 + 6)).toNat / 6) 512); unfold w32 at *; omega)) (GG.forget (Lle.ye (Lle.ye (Lle.ye (Lle.ye (Lle.ye (Lle.no (Lle.no (Lle.nil)))))))) hK))
    refine Seg.step (pc' := 300) (I_iconst dL_law_299 ⟨by decide, by decide⟩) ?_
    exact S_zret dL_law_300 rfl (by decide) (by first | (show 140 + 2 * (min (x1.1.toNat / 6) 512) + 0 ≤ 1166; omega) | (show 140 + 2 * (min (x1.1.toNat / 6) 512) + 2 ≤ 1166; omega)) (by first | (show 4222 + 16 * (min (x1.1.toNat / 6) 512) + 0 ≤ 12426; omega) | (show 4222 + 16 * (min (x1.1.toNat / 6) 512) + 16 ≤ 12426; omega)) (fun K hK => hK)
  refine S_ite (fun h18 => ?_) (fun h18 => ?_)
  · refine Seg.step (I_tsw (v := 1) (off := 261) (tgt := 301) dL_law_40 h18 (by decide) rfl (by decide)) ?_
    refine Seg.step (pc' := 302) (I_aload_n (i := 1) dL_law_301 rfl rfl) ?_
    refine Seg.step (pc' := 303) (I_aload_s (i := 0) dL_law_302 rfl rfl) ?_
    refine Seg.step (pc' := 305) (I_iload dL_law_303 rfl) ?_
    refine Seg.step (pc' := 306) (I_iconst dL_law_305 ⟨by decide, by decide⟩) ?_
    refine Seg.step (pc' := 307) (I_iadd dL_law_306) ?_
    refine S_gd fun h19 => ?_
    refine Seg.step (pc' := 308) (I_sld h19 dL_law_307) ?_
    refine S_callV1 (md' := m_X11_text) (fun y => some (iV y.1)) (fun y => (sh, false, R, y.2)) (hE _ _ sk_11) ⟨by decide, rfl⟩ mm_X11_text wm_L_26 ⟨rfl, rfl, by decide, by decide, by first | (show 140 + 2 * (min (x1.1.toNat / 6) 512) + 0 ≤ 1166; omega) | (show 140 + 2 * (min (x1.1.toNat / 6) 512) + 2 ≤ 1166; omega), by first | (show 4222 + 16 * (min (x1.1.toNat / 6) 512) + 0 ≤ 12426; omega) | (show 4222 + 16 * (min (x1.1.toNat / 6) 512) + 16 ≤ 12426; omega)⟩ (Nat.le_of_ble_eq_true rfl) dL_law_308 (fun y hy => c_X11_text hE hL y hy) (fun x20 => ?_)
    refine Seg.step (pc' := 312) (I_aload_n (i := 2) dL_law_311 rfl rfl) ?_
    refine Seg.step (pc' := 313) (I_aload_s (i := 0) dL_law_312 rfl rfl) ?_
    refine Seg.step (pc' := 315) (I_iload dL_law_313 rfl) ?_
    refine Seg.step (pc' := 316) (I_iconst dL_law_315 ⟨by decide, by decide⟩) ?_
    refine Seg.step (pc' := 317) (I_iadd dL_law_316) ?_
    refine S_gd fun h21 => ?_
    refine Seg.step (pc' := 318) (I_sld h21 dL_law_317) ?_
    refine S_callV1 (md' := m_X12_text) (fun y => some (iV y.1)) (fun y => (sh, false, R, y.2)) (hE _ _ sk_12) ⟨by decide, rfl⟩ mm_X12_text wm_L_30 ⟨rfl, rfl, by decide, by decide, by first | (show 140 + 2 * (min (x1.1.toNat / 6) 512) + 0 ≤ 1166; omega) | (show 140 + 2 * (min (x1.1.toNat / 6) 512) + 2 ≤ 1166; omega), by first | (show 4222 + 16 * (min (x1.1.toNat / 6) 512) + 0 ≤ 12426; omega) | (show 4222 + 16 * (min (x1.1.toNat / 6) 512) + 16 ≤ 12426; omega)⟩ (Nat.le_of_ble_eq_true rfl) dL_law_318 (fun y hy => c_X12_text hE hL y hy) (fun x22 => ?_)
    refine S_icmp_eq (tgt := 1743) dL_law_321 (by decide) (fun h23 => ?_) (fun h23 => ?_)
    · refine Seg.step (pc' := 1746) (I_iinc dL_law_1743 rfl (by decide) rfl) ?_
      refine Seg.step (pc' := 23) (I_goto (tgt := 23) dL_law_1746 (by decide)) ?_
      exact S_arr (fun K hK => GG.widen (by first | (show 140 + 2 * (min (x1.1.toNat / 6) 512) + 0 ≤ 140 + 2 * (min ((w32 (x1.1 + 6)).toNat / 6) 512); unfold w32 at *; omega) | (show 140 + 2 * (min (x1.1.toNat / 6) 512) + 2 ≤ 140 + 2 * (min ((w32 (x1.1 + 6)).toNat / 6) 512); unfold w32 at *; omega)) (by first | (show 4222 + 16 * (min (x1.1.toNat / 6) 512) + 0 ≤ 4222 + 16 * (min ((w32 (x1.1 + 6)).toNat / 6) 512); unfold w32 at *; omega) | (show 4222 + 16 * (min (x1.1.toNat / 6) 512) + 16 ≤ 4222 + 16 * (min ((w32 (x1.1 + 6)).toNat / 6) 512); unfold w32 at *; omega)) (GG.forget (Lle.ye (Lle.ye (Lle.ye (Lle.ye (Lle.ye (Lle.no (Lle.no (Lle.nil)))))))) hK))
    refine Seg.step (pc' := 325) (I_iconst dL_law_324 ⟨by decide, by decide⟩) ?_
    exact S_zret dL_law_325 rfl (by decide) (by first | (show 140 + 2 * (min (x1.1.toNat / 6) 512) + 0 ≤ 1166; omega) | (show 140 + 2 * (min (x1.1.toNat / 6) 512) + 2 ≤ 1166; omega)) (by first | (show 4222 + 16 * (min (x1.1.toNat / 6) 512) + 0 ≤ 12426; omega) | (show 4222 + 16 * (min (x1.1.toNat / 6) 512) + 16 ≤ 12426; omega)) (fun K hK => hK)
  refine S_ite (fun h24 => ?_) (fun h24 => ?_)
  · refine Seg.step (I_tsw (v := 2) (off := 286) (tgt := 326) dL_law_40 h24 (by decide) rfl (by decide)) ?_
    refine Seg.step (pc' := 327) (I_aload_n (i := 1) dL_law_326 rfl rfl) ?_
    refine Seg.step (pc' := 328) (I_aload_s (i := 0) dL_law_327 rfl rfl) ?_
    refine Seg.step (pc' := 330) (I_iload dL_law_328 rfl) ?_
    refine Seg.step (pc' := 331) (I_iconst dL_law_330 ⟨by decide, by decide⟩) ?_
    refine Seg.step (pc' := 332) (I_iadd dL_law_331) ?_
    refine S_gd fun h25 => ?_
    refine Seg.step (pc' := 333) (I_sld h25 dL_law_332) ?_
    refine S_callV1 (md' := m_X11_fault) (fun y => some (iV y)) (fun y => (sh, false, R, x1.2)) (hE _ _ sk_11) ⟨by decide, rfl⟩ mm_X11_fault wm_L_31 ⟨rfl, rfl, by decide, by decide, by first | (show 140 + 2 * (min (x1.1.toNat / 6) 512) + 0 ≤ 1166; omega) | (show 140 + 2 * (min (x1.1.toNat / 6) 512) + 2 ≤ 1166; omega), by first | (show 4222 + 16 * (min (x1.1.toNat / 6) 512) + 0 ≤ 12426; omega) | (show 4222 + 16 * (min (x1.1.toNat / 6) 512) + 16 ≤ 12426; omega)⟩ (Nat.le_of_ble_eq_true rfl) dL_law_333 (fun y hy => c_X11_fault hE hL y hy) (fun x26 => ?_)
    refine Seg.step (pc' := 337) (I_aload_n (i := 2) dL_law_336 rfl rfl) ?_
    refine Seg.step (pc' := 338) (I_aload_s (i := 0) dL_law_337 rfl rfl) ?_
    refine Seg.step (pc' := 340) (I_iload dL_law_338 rfl) ?_
    refine Seg.step (pc' := 341) (I_iconst dL_law_340 ⟨by decide, by decide⟩) ?_
    refine Seg.step (pc' := 342) (I_iadd dL_law_341) ?_
    refine S_gd fun h27 => ?_
    refine Seg.step (pc' := 343) (I_sld h27 dL_law_342) ?_
    refine S_callV1 (md' := m_X12_fault) (fun y => some (iV y.1)) (fun y => (sh, false, R, y.2)) (hE _ _ sk_12) ⟨by decide, rfl⟩ mm_X12_fault wm_L_34 ⟨rfl, rfl, by decide, by decide, by first | (show 140 + 2 * (min (x1.1.toNat / 6) 512) + 0 ≤ 1166; omega) | (show 140 + 2 * (min (x1.1.toNat / 6) 512) + 2 ≤ 1166; omega), by first | (show 4222 + 16 * (min (x1.1.toNat / 6) 512) + 0 ≤ 12426; omega) | (show 4222 + 16 * (min (x1.1.toNat / 6) 512) + 16 ≤ 12426; omega)⟩ (Nat.le_of_ble_eq_true rfl) dL_law_343 (fun y hy => c_X12_fault hE hL y hy) (fun x28 => ?_)
    refine S_icmp_eq (tgt := 1743) dL_law_346 (by decide) (fun h29 => ?_) (fun h29 => ?_)
    · refine Seg.step (pc' := 1746) (I_iinc dL_law_1743 rfl (by decide) rfl) ?_
      refine Seg.step (pc' := 23) (I_goto (tgt := 23) dL_law_1746 (by decide)) ?_
      exact S_arr (fun K hK => GG.widen (by first | (show 140 + 2 * (min (x1.1.toNat / 6) 512) + 0 ≤ 140 + 2 * (min ((w32 (x1.1 + 6)).toNat / 6) 512); unfold w32 at *; omega) | (show 140 + 2 * (min (x1.1.toNat / 6) 512) + 2 ≤ 140 + 2 * (min ((w32 (x1.1 + 6)).toNat / 6) 512); unfold w32 at *; omega)) (by first | (show 4222 + 16 * (min (x1.1.toNat / 6) 512) + 0 ≤ 4222 + 16 * (min ((w32 (x1.1 + 6)).toNat / 6) 512); unfold w32 at *; omega) | (show 4222 + 16 * (min (x1.1.toNat / 6) 512) + 16 ≤ 4222 + 16 * (min ((w32 (x1.1 + 6)).toNat / 6) 512); unfold w32 at *; omega)) (GG.forget (Lle.ye (Lle.ye (Lle.ye (Lle.ye (Lle.ye (Lle.no (Lle.no (Lle.nil)))))))) hK))
    refine Seg.step (pc' := 350) (I_iconst dL_law_349 ⟨by decide, by decide⟩) ?_
    exact S_zret dL_law_350 rfl (by decide) (by first | (show 140 + 2 * (min (x1.1.toNat / 6) 512) + 0 ≤ 1166; omega) | (show 140 + 2 * (min (x1.1.toNat / 6) 512) + 2 ≤ 1166; omega)) (by first | (show 4222 + 16 * (min (x1.1.toNat / 6) 512) + 0 ≤ 12426; omega) | (show 4222 + 16 * (min (x1.1.toNat / 6) 512) + 16 ≤ 12426; omega)) (fun K hK => hK)
  refine S_ite (fun h30 => ?_) (fun h30 => ?_)
  · refine Seg.step (I_tsw (v := 3) (off := 311) (tgt := 351) dL_law_40 h30 (by decide) rfl (by decide)) ?_
    refine Seg.step (pc' := 352) (I_aload_n (i := 1) dL_law_351 rfl rfl) ?_
    refine Seg.step (pc' := 353) (I_aload_s (i := 0) dL_law_352 rfl rfl) ?_
    refine Seg.step (pc' := 355) (I_iload dL_law_353 rfl) ?_
    refine Seg.step (pc' := 356) (I_iconst dL_law_355 ⟨by decide, by decide⟩) ?_
    refine Seg.step (pc' := 357) (I_iadd dL_law_356) ?_
    refine S_gd fun h31 => ?_
    refine Seg.step (pc' := 358) (I_sld h31 dL_law_357) ?_
    refine Seg.step (pc' := 359) (I_aload_s (i := 0) dL_law_358 rfl rfl) ?_
    refine Seg.step (pc' := 361) (I_iload dL_law_359 rfl) ?_
    refine Seg.step (pc' := 362) (I_iconst dL_law_361 ⟨by decide, by decide⟩) ?_
    refine Seg.step (pc' := 363) (I_iadd dL_law_362) ?_
    refine S_gd fun h32 => ?_
    refine Seg.step (pc' := 364) (I_sld h32 dL_law_363) ?_
    refine S_callV2 (md' := m_X11_named) (fun y => some (iV y)) (fun y => (sh, false, R, x1.2)) (hE _ _ sk_11) ⟨by decide, rfl⟩ mm_X11_named wm_L_35 ⟨rfl, rfl, by decide, by decide, by first | (show 140 + 2 * (min (x1.1.toNat / 6) 512) + 0 ≤ 1166; omega) | (show 140 + 2 * (min (x1.1.toNat / 6) 512) + 2 ≤ 1166; omega), by first | (show 4222 + 16 * (min (x1.1.toNat / 6) 512) + 0 ≤ 12426; omega) | (show 4222 + 16 * (min (x1.1.toNat / 6) 512) + 16 ≤ 12426; omega)⟩ (Nat.le_of_ble_eq_true rfl) dL_law_364 (fun y hy => c_X11_named hE hL y hy) (fun x33 => ?_)
    refine Seg.step (pc' := 368) (I_aload_n (i := 2) dL_law_367 rfl rfl) ?_
    refine Seg.step (pc' := 369) (I_aload_s (i := 0) dL_law_368 rfl rfl) ?_
    refine Seg.step (pc' := 371) (I_iload dL_law_369 rfl) ?_
    refine Seg.step (pc' := 372) (I_iconst dL_law_371 ⟨by decide, by decide⟩) ?_
    refine Seg.step (pc' := 373) (I_iadd dL_law_372) ?_
    refine S_gd fun h34 => ?_
    refine Seg.step (pc' := 374) (I_sld h34 dL_law_373) ?_
    refine Seg.step (pc' := 375) (I_aload_s (i := 0) dL_law_374 rfl rfl) ?_
    refine Seg.step (pc' := 377) (I_iload dL_law_375 rfl) ?_
    refine Seg.step (pc' := 378) (I_iconst dL_law_377 ⟨by decide, by decide⟩) ?_
    refine Seg.step (pc' := 379) (I_iadd dL_law_378) ?_
    refine S_gd fun h35 => ?_
    refine Seg.step (pc' := 380) (I_sld h35 dL_law_379) ?_
    refine S_callV2 (md' := m_X12_named) (fun y => some (iV y.1)) (fun y => (sh, false, R, y.2)) (hE _ _ sk_12) ⟨by decide, rfl⟩ mm_X12_named wm_L_38 ⟨rfl, rfl, by decide, by decide, by first | (show 140 + 2 * (min (x1.1.toNat / 6) 512) + 0 ≤ 1166; omega) | (show 140 + 2 * (min (x1.1.toNat / 6) 512) + 2 ≤ 1166; omega), by first | (show 4222 + 16 * (min (x1.1.toNat / 6) 512) + 0 ≤ 12426; omega) | (show 4222 + 16 * (min (x1.1.toNat / 6) 512) + 16 ≤ 12426; omega)⟩ (Nat.le_of_ble_eq_true rfl) dL_law_380 (fun y hy => c_X12_named hE hL y hy) (fun x36 => ?_)
    refine S_icmp_eq (tgt := 1743) dL_law_383 (by decide) (fun h37 => ?_) (fun h37 => ?_)
    · refine Seg.step (pc' := 1746) (I_iinc dL_law_1743 rfl (by decide) rfl) ?_
      refine Seg.step (pc' := 23) (I_goto (tgt := 23) dL_law_1746 (by decide)) ?_
      exact S_arr (fun K hK => GG.widen (by first | (show 140 + 2 * (min (x1.1.toNat / 6) 512) + 0 ≤ 140 + 2 * (min ((w32 (x1.1 + 6)).toNat / 6) 512); unfold w32 at *; omega) | (show 140 + 2 * (min (x1.1.toNat / 6) 512) + 2 ≤ 140 + 2 * (min ((w32 (x1.1 + 6)).toNat / 6) 512); unfold w32 at *; omega)) (by first | (show 4222 + 16 * (min (x1.1.toNat / 6) 512) + 0 ≤ 4222 + 16 * (min ((w32 (x1.1 + 6)).toNat / 6) 512); unfold w32 at *; omega) | (show 4222 + 16 * (min (x1.1.toNat / 6) 512) + 16 ≤ 4222 + 16 * (min ((w32 (x1.1 + 6)).toNat / 6) 512); unfold w32 at *; omega)) (GG.forget (Lle.ye (Lle.ye (Lle.ye (Lle.ye (Lle.ye (Lle.no (Lle.no (Lle.nil)))))))) hK))
    refine Seg.step (pc' := 387) (I_iconst dL_law_386 ⟨by decide, by decide⟩) ?_
    exact S_zret dL_law_387 rfl (by decide) (by first | (show 140 + 2 * (min (x1.1.toNat / 6) 512) + 0 ≤ 1166; omega) | (show 140 + 2 * (min (x1.1.toNat / 6) 512) + 2 ≤ 1166; omega)) (by first | (show 4222 + 16 * (min (x1.1.toNat / 6) 512) + 0 ≤ 12426; omega) | (show 4222 + 16 * (min (x1.1.toNat / 6) 512) + 16 ≤ 12426; omega)) (fun K hK => hK)
  refine S_ite (fun h38 => ?_) (fun h38 => ?_)
  · refine Seg.step (I_tsw (v := 4) (off := 348) (tgt := 388) dL_law_40 h38 (by decide) rfl (by decide)) ?_
    refine Seg.step (pc' := 389) (I_aload_n (i := 1) dL_law_388 rfl rfl) ?_
    refine Seg.step (pc' := 390) (I_aload_s (i := 0) dL_law_389 rfl rfl) ?_
    refine Seg.step (pc' := 392) (I_iload dL_law_390 rfl) ?_
    refine Seg.step (pc' := 393) (I_iconst dL_law_392 ⟨by decide, by decide⟩) ?_
    refine Seg.step (pc' := 394) (I_iadd dL_law_393) ?_
    refine S_gd fun h39 => ?_
    refine Seg.step (pc' := 395) (I_sld h39 dL_law_394) ?_
    refine Seg.step (pc' := 396) (I_aload_s (i := 0) dL_law_395 rfl rfl) ?_
    refine Seg.step (pc' := 398) (I_iload dL_law_396 rfl) ?_
    refine Seg.step (pc' := 399) (I_iconst dL_law_398 ⟨by decide, by decide⟩) ?_
    refine Seg.step (pc' := 400) (I_iadd dL_law_399) ?_
    refine S_gd fun h40 => ?_
    refine Seg.step (pc' := 401) (I_sld h40 dL_law_400) ?_
    refine Seg.step (pc' := 402) (I_aload_n (i := 3) dL_law_401 rfl rfl) ?_
    refine S_osp (pc' := 405) (k' := 140 + 2 * (min (x1.1.toNat / 6) 512) + 2) (n' := 4222 + 16 * (min (x1.1.toNat / 6) 512) + 16) (fun y => iV y.1 :: []) (fun y => (sh, false, R, y.2)) (fun y hy => hPers (by first | (show 140 + 2 * (min (x1.1.toNat / 6) 512) + 2 ≤ 1166; omega) | omega) (by first | (show 4222 + 16 * (min (x1.1.toNat / 6) 512) + 16 ≤ 12426; omega) | omega) y hy) (fun x41 => ?_)
    refine Seg.step (pc' := 407) (I_istore dL_law_405 (by decide) rfl) ?_
    refine Seg.step (pc' := 408) (I_aload_n (i := 2) dL_law_407 rfl rfl) ?_
    refine Seg.step (pc' := 409) (I_aload_s (i := 0) dL_law_408 rfl rfl) ?_
    refine Seg.step (pc' := 411) (I_iload dL_law_409 rfl) ?_
    refine Seg.step (pc' := 412) (I_iconst dL_law_411 ⟨by decide, by decide⟩) ?_
    refine Seg.step (pc' := 413) (I_iadd dL_law_412) ?_
    refine S_gd fun h42 => ?_
    refine Seg.step (pc' := 414) (I_sld h42 dL_law_413) ?_
    refine Seg.step (pc' := 415) (I_aload_s (i := 0) dL_law_414 rfl rfl) ?_
    refine Seg.step (pc' := 417) (I_iload dL_law_415 rfl) ?_
    refine Seg.step (pc' := 418) (I_iconst dL_law_417 ⟨by decide, by decide⟩) ?_
    refine Seg.step (pc' := 419) (I_iadd dL_law_418) ?_
    refine S_gd fun h43 => ?_
    refine Seg.step (pc' := 420) (I_sld h43 dL_law_419) ?_
    refine S_callV2 (md' := m_X12_person) (fun y => some (iV y.1)) (fun y => (sh, false, R, y.2)) (hE _ _ sk_12) ⟨by decide, rfl⟩ mm_X12_person wm_L_44 ⟨rfl, rfl, by decide, by decide, by first | (show 140 + 2 * (min (x1.1.toNat / 6) 512) + 0 ≤ 1166; omega) | (show 140 + 2 * (min (x1.1.toNat / 6) 512) + 2 ≤ 1166; omega), by first | (show 4222 + 16 * (min (x1.1.toNat / 6) 512) + 0 ≤ 12426; omega) | (show 4222 + 16 * (min (x1.1.toNat / 6) 512) + 16 ≤ 12426; omega)⟩ (Nat.le_of_ble_eq_true rfl) dL_law_420 (fun y hy => c_X12_person hE hL y hy) (fun x44 => ?_)
    refine Seg.step (pc' := 425) (I_istore dL_law_423 (by decide) rfl) ?_
    refine Seg.step (pc' := 426) (I_aload_n (i := 2) dL_law_425 rfl rfl) ?_
    refine S_callV0 (md' := m_X12_thrown) (fun y => some (iV y)) (fun y => (sh, false, R, x44.2)) (hE _ _ sk_12) ⟨by decide, rfl⟩ mm_X12_thrown wm_L_45 ⟨rfl, rfl, by decide, by decide, by first | (show 140 + 2 * (min (x1.1.toNat / 6) 512) + 0 ≤ 1166; omega) | (show 140 + 2 * (min (x1.1.toNat / 6) 512) + 2 ≤ 1166; omega), by first | (show 4222 + 16 * (min (x1.1.toNat / 6) 512) + 0 ≤ 12426; omega) | (show 4222 + 16 * (min (x1.1.toNat / 6) 512) + 16 ≤ 12426; omega)⟩ (Nat.le_of_ble_eq_true rfl) dL_law_426 (fun y hy => c_X12_thrown hE hL y hy) (fun x45 => ?_)
    refine Seg.step (pc' := 431) (I_iload dL_law_429 rfl) ?_
    refine S_icmp_eq (tgt := 436) dL_law_431 (by decide) (fun h46 => ?_) (fun h46 => ?_)
    · refine Seg.step (pc' := 438) (I_iload dL_law_436 rfl) ?_
      refine S_if_ne (tgt := 453) dL_law_438 (by decide) (fun h47 => ?_) (fun h47 => ?_)
      · refine Seg.step (pc' := 442) (I_aload_n (i := 3) dL_law_441 rfl rfl) ?_
        refine Seg.step (pc' := 443) (I_iconst dL_law_442 ⟨by decide, by decide⟩) ?_
        refine Seg.step (pc' := 444) (I_lald hOut ⟨by decide, by decide⟩ dL_law_443) ?_
        refine Seg.step (pc' := 446) (I_iload dL_law_444 rfl) ?_
        refine Seg.step (pc' := 447) (I_i2l dL_law_446) ?_
        refine Seg.step (pc' := 448) (I_lcmp dL_law_447) ?_
        refine S_if_eq (tgt := 453) dL_law_448 (by decide) (fun h48 => ?_) (fun h48 => ?_)
        · refine Seg.step (pc' := 1743) (I_goto (tgt := 1743) dL_law_453 (by decide)) ?_
          refine Seg.step (pc' := 1746) (I_iinc dL_law_1743 rfl (by decide) rfl) ?_
          refine Seg.step (pc' := 23) (I_goto (tgt := 23) dL_law_1746 (by decide)) ?_
          exact S_arr (fun K hK => GG.widen (by first | (show 140 + 2 * (min (x1.1.toNat / 6) 512) + 0 ≤ 140 + 2 * (min ((w32 (x1.1 + 6)).toNat / 6) 512); unfold w32 at *; omega) | (show 140 + 2 * (min (x1.1.toNat / 6) 512) + 2 ≤ 140 + 2 * (min ((w32 (x1.1 + 6)).toNat / 6) 512); unfold w32 at *; omega)) (by first | (show 4222 + 16 * (min (x1.1.toNat / 6) 512) + 0 ≤ 4222 + 16 * (min ((w32 (x1.1 + 6)).toNat / 6) 512); unfold w32 at *; omega) | (show 4222 + 16 * (min (x1.1.toNat / 6) 512) + 16 ≤ 4222 + 16 * (min ((w32 (x1.1 + 6)).toNat / 6) 512); unfold w32 at *; omega)) (GG.forget (Lle.ye (Lle.ye (Lle.ye (Lle.ye (Lle.ye (Lle.no (Lle.no (Lle.nil)))))))) hK))
        refine Seg.step (pc' := 452) (I_iconst dL_law_451 ⟨by decide, by decide⟩) ?_
        exact S_zret dL_law_452 rfl (by decide) (by first | (show 140 + 2 * (min (x1.1.toNat / 6) 512) + 0 ≤ 1166; omega) | (show 140 + 2 * (min (x1.1.toNat / 6) 512) + 2 ≤ 1166; omega)) (by first | (show 4222 + 16 * (min (x1.1.toNat / 6) 512) + 0 ≤ 12426; omega) | (show 4222 + 16 * (min (x1.1.toNat / 6) 512) + 16 ≤ 12426; omega)) (fun K hK => hK)
      refine Seg.step (pc' := 1743) (I_goto (tgt := 1743) dL_law_453 (by decide)) ?_
      refine Seg.step (pc' := 1746) (I_iinc dL_law_1743 rfl (by decide) rfl) ?_
      refine Seg.step (pc' := 23) (I_goto (tgt := 23) dL_law_1746 (by decide)) ?_
      exact S_arr (fun K hK => GG.widen (by first | (show 140 + 2 * (min (x1.1.toNat / 6) 512) + 0 ≤ 140 + 2 * (min ((w32 (x1.1 + 6)).toNat / 6) 512); unfold w32 at *; omega) | (show 140 + 2 * (min (x1.1.toNat / 6) 512) + 2 ≤ 140 + 2 * (min ((w32 (x1.1 + 6)).toNat / 6) 512); unfold w32 at *; omega)) (by first | (show 4222 + 16 * (min (x1.1.toNat / 6) 512) + 0 ≤ 4222 + 16 * (min ((w32 (x1.1 + 6)).toNat / 6) 512); unfold w32 at *; omega) | (show 4222 + 16 * (min (x1.1.toNat / 6) 512) + 16 ≤ 4222 + 16 * (min ((w32 (x1.1 + 6)).toNat / 6) 512); unfold w32 at *; omega)) (GG.forget (Lle.ye (Lle.ye (Lle.ye (Lle.ye (Lle.ye (Lle.no (Lle.no (Lle.nil)))))))) hK))
    refine Seg.step (pc' := 435) (I_iconst dL_law_434 ⟨by decide, by decide⟩) ?_
    exact S_zret dL_law_435 rfl (by decide) (by first | (show 140 + 2 * (min (x1.1.toNat / 6) 512) + 0 ≤ 1166; omega) | (show 140 + 2 * (min (x1.1.toNat / 6) 512) + 2 ≤ 1166; omega)) (by first | (show 4222 + 16 * (min (x1.1.toNat / 6) 512) + 0 ≤ 12426; omega) | (show 4222 + 16 * (min (x1.1.toNat / 6) 512) + 16 ≤ 12426; omega)) (fun K hK => hK)
  refine S_ite (fun h49 => ?_) (fun h49 => ?_)
  · refine Seg.step (I_tsw (v := 5) (off := 416) (tgt := 456) dL_law_40 h49 (by decide) rfl (by decide)) ?_
    refine Seg.step (pc' := 457) (I_aload_n (i := 1) dL_law_456 rfl rfl) ?_
    refine Seg.step (pc' := 458) (I_aload_s (i := 0) dL_law_457 rfl rfl) ?_
    refine Seg.step (pc' := 460) (I_iload dL_law_458 rfl) ?_
    refine Seg.step (pc' := 461) (I_iconst dL_law_460 ⟨by decide, by decide⟩) ?_
    refine Seg.step (pc' := 462) (I_iadd dL_law_461) ?_
    refine S_gd fun h50 => ?_
    refine Seg.step (pc' := 463) (I_sld h50 dL_law_462) ?_
    refine Seg.step (pc' := 464) (I_aload_s (i := 0) dL_law_463 rfl rfl) ?_
    refine Seg.step (pc' := 466) (I_iload dL_law_464 rfl) ?_
    refine Seg.step (pc' := 467) (I_iconst dL_law_466 ⟨by decide, by decide⟩) ?_
    refine Seg.step (pc' := 468) (I_iadd dL_law_467) ?_
    refine S_gd fun h51 => ?_
    refine Seg.step (pc' := 469) (I_sld h51 dL_law_468) ?_
    refine S_callV2 (md' := m_X11_room) (fun y => some (iV y)) (fun y => (sh, false, R, x1.2)) (hE _ _ sk_11) ⟨by decide, rfl⟩ mm_X11_room wm_L_49 ⟨rfl, rfl, by decide, by decide, by first | (show 140 + 2 * (min (x1.1.toNat / 6) 512) + 0 ≤ 1166; omega) | (show 140 + 2 * (min (x1.1.toNat / 6) 512) + 2 ≤ 1166; omega), by first | (show 4222 + 16 * (min (x1.1.toNat / 6) 512) + 0 ≤ 12426; omega) | (show 4222 + 16 * (min (x1.1.toNat / 6) 512) + 16 ≤ 12426; omega)⟩ (Nat.le_of_ble_eq_true rfl) dL_law_469 (fun y hy => c_X11_room hE hL y hy) (fun x52 => ?_)
    refine Seg.step (pc' := 473) (I_aload_n (i := 2) dL_law_472 rfl rfl) ?_
    refine Seg.step (pc' := 474) (I_aload_s (i := 0) dL_law_473 rfl rfl) ?_
    refine Seg.step (pc' := 476) (I_iload dL_law_474 rfl) ?_
    refine Seg.step (pc' := 477) (I_iconst dL_law_476 ⟨by decide, by decide⟩) ?_
    refine Seg.step (pc' := 478) (I_iadd dL_law_477) ?_
    refine S_gd fun h53 => ?_
    refine Seg.step (pc' := 479) (I_sld h53 dL_law_478) ?_
    refine Seg.step (pc' := 480) (I_aload_s (i := 0) dL_law_479 rfl rfl) ?_
    refine Seg.step (pc' := 482) (I_iload dL_law_480 rfl) ?_
    refine Seg.step (pc' := 483) (I_iconst dL_law_482 ⟨by decide, by decide⟩) ?_
    refine Seg.step (pc' := 484) (I_iadd dL_law_483) ?_
    refine S_gd fun h54 => ?_
    refine Seg.step (pc' := 485) (I_sld h54 dL_law_484) ?_
    refine S_callV2 (md' := m_X12_room) (fun y => some (iV y.1)) (fun y => (sh, false, R, y.2)) (hE _ _ sk_12) ⟨by decide, rfl⟩ mm_X12_room wm_L_52 ⟨rfl, rfl, by decide, by decide, by first | (show 140 + 2 * (min (x1.1.toNat / 6) 512) + 0 ≤ 1166; omega) | (show 140 + 2 * (min (x1.1.toNat / 6) 512) + 2 ≤ 1166; omega), by first | (show 4222 + 16 * (min (x1.1.toNat / 6) 512) + 0 ≤ 12426; omega) | (show 4222 + 16 * (min (x1.1.toNat / 6) 512) + 16 ≤ 12426; omega)⟩ (Nat.le_of_ble_eq_true rfl) dL_law_485 (fun y hy => c_X12_room hE hL y hy) (fun x55 => ?_)
    refine S_icmp_eq (tgt := 1743) dL_law_488 (by decide) (fun h56 => ?_) (fun h56 => ?_)
    · refine Seg.step (pc' := 1746) (I_iinc dL_law_1743 rfl (by decide) rfl) ?_
      refine Seg.step (pc' := 23) (I_goto (tgt := 23) dL_law_1746 (by decide)) ?_
      exact S_arr (fun K hK => GG.widen (by first | (show 140 + 2 * (min (x1.1.toNat / 6) 512) + 0 ≤ 140 + 2 * (min ((w32 (x1.1 + 6)).toNat / 6) 512); unfold w32 at *; omega) | (show 140 + 2 * (min (x1.1.toNat / 6) 512) + 2 ≤ 140 + 2 * (min ((w32 (x1.1 + 6)).toNat / 6) 512); unfold w32 at *; omega)) (by first | (show 4222 + 16 * (min (x1.1.toNat / 6) 512) + 0 ≤ 4222 + 16 * (min ((w32 (x1.1 + 6)).toNat / 6) 512); unfold w32 at *; omega) | (show 4222 + 16 * (min (x1.1.toNat / 6) 512) + 16 ≤ 4222 + 16 * (min ((w32 (x1.1 + 6)).toNat / 6) 512); unfold w32 at *; omega)) (GG.forget (Lle.ye (Lle.ye (Lle.ye (Lle.ye (Lle.ye (Lle.no (Lle.no (Lle.nil)))))))) hK))
    refine Seg.step (pc' := 492) (I_iconst dL_law_491 ⟨by decide, by decide⟩) ?_
    exact S_zret dL_law_492 rfl (by decide) (by first | (show 140 + 2 * (min (x1.1.toNat / 6) 512) + 0 ≤ 1166; omega) | (show 140 + 2 * (min (x1.1.toNat / 6) 512) + 2 ≤ 1166; omega)) (by first | (show 4222 + 16 * (min (x1.1.toNat / 6) 512) + 0 ≤ 12426; omega) | (show 4222 + 16 * (min (x1.1.toNat / 6) 512) + 16 ≤ 12426; omega)) (fun K hK => hK)
  refine S_ite (fun h57 => ?_) (fun h57 => ?_)
  · refine Seg.step (I_tsw (v := 6) (off := 453) (tgt := 493) dL_law_40 h57 (by decide) rfl (by decide)) ?_
    refine Seg.step (pc' := 494) (I_aload_n (i := 1) dL_law_493 rfl rfl) ?_
    refine Seg.step (pc' := 495) (I_aload_s (i := 0) dL_law_494 rfl rfl) ?_
    refine Seg.step (pc' := 497) (I_iload dL_law_495 rfl) ?_
    refine Seg.step (pc' := 498) (I_iconst dL_law_497 ⟨by decide, by decide⟩) ?_
    refine Seg.step (pc' := 499) (I_iadd dL_law_498) ?_
    refine S_gd fun h58 => ?_
    refine Seg.step (pc' := 500) (I_sld h58 dL_law_499) ?_
    refine S_callV1 (md' := m_X11_out) (fun y => some (iV y)) (fun y => (sh, false, R, x1.2)) (hE _ _ sk_11) ⟨by decide, rfl⟩ mm_X11_out wm_L_53 ⟨rfl, rfl, by decide, by decide, by first | (show 140 + 2 * (min (x1.1.toNat / 6) 512) + 0 ≤ 1166; omega) | (show 140 + 2 * (min (x1.1.toNat / 6) 512) + 2 ≤ 1166; omega), by first | (show 4222 + 16 * (min (x1.1.toNat / 6) 512) + 0 ≤ 12426; omega) | (show 4222 + 16 * (min (x1.1.toNat / 6) 512) + 16 ≤ 12426; omega)⟩ (Nat.le_of_ble_eq_true rfl) dL_law_500 (fun y hy => c_X11_out hE hL y hy) (fun x59 => ?_)
    refine Seg.step (pc' := 504) (I_aload_n (i := 2) dL_law_503 rfl rfl) ?_
    refine Seg.step (pc' := 505) (I_aload_s (i := 0) dL_law_504 rfl rfl) ?_
    refine Seg.step (pc' := 507) (I_iload dL_law_505 rfl) ?_
    refine Seg.step (pc' := 508) (I_iconst dL_law_507 ⟨by decide, by decide⟩) ?_
    refine Seg.step (pc' := 509) (I_iadd dL_law_508) ?_
    refine S_gd fun h60 => ?_
    refine Seg.step (pc' := 510) (I_sld h60 dL_law_509) ?_
    refine S_callV1 (md' := m_X12_out) (fun y => some (iV y.1)) (fun y => (sh, false, R, y.2)) (hE _ _ sk_12) ⟨by decide, rfl⟩ mm_X12_out wm_L_56 ⟨rfl, rfl, by decide, by decide, by first | (show 140 + 2 * (min (x1.1.toNat / 6) 512) + 0 ≤ 1166; omega) | (show 140 + 2 * (min (x1.1.toNat / 6) 512) + 2 ≤ 1166; omega), by first | (show 4222 + 16 * (min (x1.1.toNat / 6) 512) + 0 ≤ 12426; omega) | (show 4222 + 16 * (min (x1.1.toNat / 6) 512) + 16 ≤ 12426; omega)⟩ (Nat.le_of_ble_eq_true rfl) dL_law_510 (fun y hy => c_X12_out hE hL y hy) (fun x61 => ?_)
    refine S_icmp_eq (tgt := 1743) dL_law_513 (by decide) (fun h62 => ?_) (fun h62 => ?_)
    · refine Seg.step (pc' := 1746) (I_iinc dL_law_1743 rfl (by decide) rfl) ?_
      refine Seg.step (pc' := 23) (I_goto (tgt := 23) dL_law_1746 (by decide)) ?_
      exact S_arr (fun K hK => GG.widen (by first | (show 140 + 2 * (min (x1.1.toNat / 6) 512) + 0 ≤ 140 + 2 * (min ((w32 (x1.1 + 6)).toNat / 6) 512); unfold w32 at *; omega) | (show 140 + 2 * (min (x1.1.toNat / 6) 512) + 2 ≤ 140 + 2 * (min ((w32 (x1.1 + 6)).toNat / 6) 512); unfold w32 at *; omega)) (by first | (show 4222 + 16 * (min (x1.1.toNat / 6) 512) + 0 ≤ 4222 + 16 * (min ((w32 (x1.1 + 6)).toNat / 6) 512); unfold w32 at *; omega) | (show 4222 + 16 * (min (x1.1.toNat / 6) 512) + 16 ≤ 4222 + 16 * (min ((w32 (x1.1 + 6)).toNat / 6) 512); unfold w32 at *; omega)) (GG.forget (Lle.ye (Lle.ye (Lle.ye (Lle.ye (Lle.ye (Lle.no (Lle.no (Lle.nil)))))))) hK))
    refine Seg.step (pc' := 517) (I_iconst dL_law_516 ⟨by decide, by decide⟩) ?_
    exact S_zret dL_law_517 rfl (by decide) (by first | (show 140 + 2 * (min (x1.1.toNat / 6) 512) + 0 ≤ 1166; omega) | (show 140 + 2 * (min (x1.1.toNat / 6) 512) + 2 ≤ 1166; omega)) (by first | (show 4222 + 16 * (min (x1.1.toNat / 6) 512) + 0 ≤ 12426; omega) | (show 4222 + 16 * (min (x1.1.toNat / 6) 512) + 16 ≤ 12426; omega)) (fun K hK => hK)
  refine S_ite (fun h63 => ?_) (fun h63 => ?_)
  · refine Seg.step (I_tsw (v := 7) (off := 478) (tgt := 518) dL_law_40 h63 (by decide) rfl (by decide)) ?_
    refine Seg.step (pc' := 519) (I_aload_n (i := 1) dL_law_518 rfl rfl) ?_
    refine Seg.step (pc' := 520) (I_aload_s (i := 0) dL_law_519 rfl rfl) ?_
    refine Seg.step (pc' := 522) (I_iload dL_law_520 rfl) ?_
    refine Seg.step (pc' := 523) (I_iconst dL_law_522 ⟨by decide, by decide⟩) ?_
    refine Seg.step (pc' := 524) (I_iadd dL_law_523) ?_
    refine S_gd fun h64 => ?_
    refine Seg.step (pc' := 525) (I_sld h64 dL_law_524) ?_
    refine Seg.step (pc' := 526) (I_aload_s (i := 0) dL_law_525 rfl rfl) ?_
    refine Seg.step (pc' := 528) (I_iload dL_law_526 rfl) ?_
    refine Seg.step (pc' := 529) (I_iconst dL_law_528 ⟨by decide, by decide⟩) ?_
    refine Seg.step (pc' := 530) (I_iadd dL_law_529) ?_
    refine S_gd fun h65 => ?_
    refine Seg.step (pc' := 531) (I_sld h65 dL_law_530) ?_
    refine S_callV2 (md' := m_X11_law) (fun y => some (jV y.1)) (fun y => (sh, false, R, y.2)) (hE _ _ sk_11) ⟨by decide, rfl⟩ mm_X11_law wm_L_57 ⟨rfl, rfl, by decide, by decide, by first | (show 140 + 2 * (min (x1.1.toNat / 6) 512) + 0 ≤ 1166; omega) | (show 140 + 2 * (min (x1.1.toNat / 6) 512) + 2 ≤ 1166; omega), by first | (show 4222 + 16 * (min (x1.1.toNat / 6) 512) + 0 ≤ 12426; omega) | (show 4222 + 16 * (min (x1.1.toNat / 6) 512) + 16 ≤ 12426; omega)⟩ (Nat.le_of_ble_eq_true rfl) dL_law_531 (fun y hy => c_X11_law hE hL y hy) (fun x66 => ?_)
    refine Seg.step (pc' := 535) (I_aload_n (i := 2) dL_law_534 rfl rfl) ?_
    refine Seg.step (pc' := 536) (I_aload_s (i := 0) dL_law_535 rfl rfl) ?_
    refine Seg.step (pc' := 538) (I_iload dL_law_536 rfl) ?_
    refine Seg.step (pc' := 539) (I_iconst dL_law_538 ⟨by decide, by decide⟩) ?_
    refine Seg.step (pc' := 540) (I_iadd dL_law_539) ?_
    refine S_gd fun h67 => ?_
    refine Seg.step (pc' := 541) (I_sld h67 dL_law_540) ?_
    refine Seg.step (pc' := 542) (I_aload_s (i := 0) dL_law_541 rfl rfl) ?_
    refine Seg.step (pc' := 544) (I_iload dL_law_542 rfl) ?_
    refine Seg.step (pc' := 545) (I_iconst dL_law_544 ⟨by decide, by decide⟩) ?_
    refine Seg.step (pc' := 546) (I_iadd dL_law_545) ?_
    refine S_gd fun h68 => ?_
    refine Seg.step (pc' := 547) (I_sld h68 dL_law_546) ?_
    refine S_callV2 (md' := m_X12_law) (fun y => some (jV y.1)) (fun y => (sh, false, R, y.2)) (hE _ _ sk_12) ⟨by decide, rfl⟩ mm_X12_law wm_L_61 ⟨rfl, rfl, by decide, by decide, by first | (show 140 + 2 * (min (x1.1.toNat / 6) 512) + 0 ≤ 1166; omega) | (show 140 + 2 * (min (x1.1.toNat / 6) 512) + 2 ≤ 1166; omega), by first | (show 4222 + 16 * (min (x1.1.toNat / 6) 512) + 0 ≤ 12426; omega) | (show 4222 + 16 * (min (x1.1.toNat / 6) 512) + 16 ≤ 12426; omega)⟩ (Nat.le_of_ble_eq_true rfl) dL_law_547 (fun y hy => c_X12_law hE hL y hy) (fun x69 => ?_)
    refine Seg.step (pc' := 551) (I_lcmp dL_law_550) ?_
    refine S_if_eq (tgt := 1743) dL_law_551 (by decide) (fun h70 => ?_) (fun h70 => ?_)
    · refine Seg.step (pc' := 1746) (I_iinc dL_law_1743 rfl (by decide) rfl) ?_
      refine Seg.step (pc' := 23) (I_goto (tgt := 23) dL_law_1746 (by decide)) ?_
      exact S_arr (fun K hK => GG.widen (by first | (show 140 + 2 * (min (x1.1.toNat / 6) 512) + 0 ≤ 140 + 2 * (min ((w32 (x1.1 + 6)).toNat / 6) 512); unfold w32 at *; omega) | (show 140 + 2 * (min (x1.1.toNat / 6) 512) + 2 ≤ 140 + 2 * (min ((w32 (x1.1 + 6)).toNat / 6) 512); unfold w32 at *; omega)) (by first | (show 4222 + 16 * (min (x1.1.toNat / 6) 512) + 0 ≤ 4222 + 16 * (min ((w32 (x1.1 + 6)).toNat / 6) 512); unfold w32 at *; omega) | (show 4222 + 16 * (min (x1.1.toNat / 6) 512) + 16 ≤ 4222 + 16 * (min ((w32 (x1.1 + 6)).toNat / 6) 512); unfold w32 at *; omega)) (GG.forget (Lle.ye (Lle.ye (Lle.ye (Lle.ye (Lle.ye (Lle.no (Lle.no (Lle.nil)))))))) hK))
    refine Seg.step (pc' := 555) (I_iconst dL_law_554 ⟨by decide, by decide⟩) ?_
    exact S_zret dL_law_555 rfl (by decide) (by first | (show 140 + 2 * (min (x1.1.toNat / 6) 512) + 0 ≤ 1166; omega) | (show 140 + 2 * (min (x1.1.toNat / 6) 512) + 2 ≤ 1166; omega)) (by first | (show 4222 + 16 * (min (x1.1.toNat / 6) 512) + 0 ≤ 12426; omega) | (show 4222 + 16 * (min (x1.1.toNat / 6) 512) + 16 ≤ 12426; omega)) (fun K hK => hK)
  refine S_ite (fun h71 => ?_) (fun h71 => ?_)
  · refine Seg.step (I_tsw (v := 8) (off := 516) (tgt := 556) dL_law_40 h71 (by decide) rfl (by decide)) ?_
    refine Seg.step (pc' := 557) (I_aload_n (i := 1) dL_law_556 rfl rfl) ?_
    refine Seg.step (pc' := 558) (I_aload_s (i := 0) dL_law_557 rfl rfl) ?_
    refine Seg.step (pc' := 560) (I_iload dL_law_558 rfl) ?_
    refine Seg.step (pc' := 561) (I_iconst dL_law_560 ⟨by decide, by decide⟩) ?_
    refine Seg.step (pc' := 562) (I_iadd dL_law_561) ?_
    refine S_gd fun h72 => ?_
    refine Seg.step (pc' := 563) (I_sld h72 dL_law_562) ?_
    refine S_callV1 (md' := m_X11_set) (fun y => some (iV y.1)) (fun y => (sh, false, R, y.2)) (hE _ _ sk_11) ⟨by decide, rfl⟩ mm_X11_set wm_L_62 ⟨rfl, rfl, by decide, by decide, by first | (show 140 + 2 * (min (x1.1.toNat / 6) 512) + 0 ≤ 1166; omega) | (show 140 + 2 * (min (x1.1.toNat / 6) 512) + 2 ≤ 1166; omega), by first | (show 4222 + 16 * (min (x1.1.toNat / 6) 512) + 0 ≤ 12426; omega) | (show 4222 + 16 * (min (x1.1.toNat / 6) 512) + 16 ≤ 12426; omega)⟩ (Nat.le_of_ble_eq_true rfl) dL_law_563 (fun y hy => c_X11_set hE hL y hy) (fun x73 => ?_)
    refine Seg.step (pc' := 567) (I_aload_n (i := 2) dL_law_566 rfl rfl) ?_
    refine Seg.step (pc' := 568) (I_aload_s (i := 0) dL_law_567 rfl rfl) ?_
    refine Seg.step (pc' := 570) (I_iload dL_law_568 rfl) ?_
    refine Seg.step (pc' := 571) (I_iconst dL_law_570 ⟨by decide, by decide⟩) ?_
    refine Seg.step (pc' := 572) (I_iadd dL_law_571) ?_
    refine S_gd fun h74 => ?_
    refine Seg.step (pc' := 573) (I_sld h74 dL_law_572) ?_
    refine S_callV1 (md' := m_X12_set) (fun y => some (iV y.1)) (fun y => (sh, false, R, y.2)) (hE _ _ sk_12) ⟨by decide, rfl⟩ mm_X12_set wm_L_66 ⟨rfl, rfl, by decide, by decide, by first | (show 140 + 2 * (min (x1.1.toNat / 6) 512) + 0 ≤ 1166; omega) | (show 140 + 2 * (min (x1.1.toNat / 6) 512) + 2 ≤ 1166; omega), by first | (show 4222 + 16 * (min (x1.1.toNat / 6) 512) + 0 ≤ 12426; omega) | (show 4222 + 16 * (min (x1.1.toNat / 6) 512) + 16 ≤ 12426; omega)⟩ (Nat.le_of_ble_eq_true rfl) dL_law_573 (fun y hy => c_X12_set hE hL y hy) (fun x75 => ?_)
    refine S_icmp_eq (tgt := 1743) dL_law_576 (by decide) (fun h76 => ?_) (fun h76 => ?_)
    · refine Seg.step (pc' := 1746) (I_iinc dL_law_1743 rfl (by decide) rfl) ?_
      refine Seg.step (pc' := 23) (I_goto (tgt := 23) dL_law_1746 (by decide)) ?_
      exact S_arr (fun K hK => GG.widen (by first | (show 140 + 2 * (min (x1.1.toNat / 6) 512) + 0 ≤ 140 + 2 * (min ((w32 (x1.1 + 6)).toNat / 6) 512); unfold w32 at *; omega) | (show 140 + 2 * (min (x1.1.toNat / 6) 512) + 2 ≤ 140 + 2 * (min ((w32 (x1.1 + 6)).toNat / 6) 512); unfold w32 at *; omega)) (by first | (show 4222 + 16 * (min (x1.1.toNat / 6) 512) + 0 ≤ 4222 + 16 * (min ((w32 (x1.1 + 6)).toNat / 6) 512); unfold w32 at *; omega) | (show 4222 + 16 * (min (x1.1.toNat / 6) 512) + 16 ≤ 4222 + 16 * (min ((w32 (x1.1 + 6)).toNat / 6) 512); unfold w32 at *; omega)) (GG.forget (Lle.ye (Lle.ye (Lle.ye (Lle.ye (Lle.ye (Lle.no (Lle.no (Lle.nil)))))))) hK))
    refine Seg.step (pc' := 580) (I_iconst dL_law_579 ⟨by decide, by decide⟩) ?_
    exact S_zret dL_law_580 rfl (by decide) (by first | (show 140 + 2 * (min (x1.1.toNat / 6) 512) + 0 ≤ 1166; omega) | (show 140 + 2 * (min (x1.1.toNat / 6) 512) + 2 ≤ 1166; omega)) (by first | (show 4222 + 16 * (min (x1.1.toNat / 6) 512) + 0 ≤ 12426; omega) | (show 4222 + 16 * (min (x1.1.toNat / 6) 512) + 16 ≤ 12426; omega)) (fun K hK => hK)
  refine S_ite (fun h77 => ?_) (fun h77 => ?_)
  · refine Seg.step (I_tsw (v := 9) (off := 541) (tgt := 581) dL_law_40 h77 (by decide) rfl (by decide)) ?_
    refine Seg.step (pc' := 582) (I_aload_n (i := 1) dL_law_581 rfl rfl) ?_
    refine Seg.step (pc' := 583) (I_aload_s (i := 0) dL_law_582 rfl rfl) ?_
    refine Seg.step (pc' := 585) (I_iload dL_law_583 rfl) ?_
    refine Seg.step (pc' := 586) (I_iconst dL_law_585 ⟨by decide, by decide⟩) ?_
    refine Seg.step (pc' := 587) (I_iadd dL_law_586) ?_
    refine S_gd fun h78 => ?_
    refine Seg.step (pc' := 588) (I_sld h78 dL_law_587) ?_
    refine S_callV1 (md' := m_X11_hang) (fun y => some (iV y.1)) (fun y => (sh, false, R, y.2)) (hE _ _ sk_11) ⟨by decide, rfl⟩ mm_X11_hang wm_L_67 ⟨rfl, rfl, by decide, by decide, by first | (show 140 + 2 * (min (x1.1.toNat / 6) 512) + 0 ≤ 1166; omega) | (show 140 + 2 * (min (x1.1.toNat / 6) 512) + 2 ≤ 1166; omega), by first | (show 4222 + 16 * (min (x1.1.toNat / 6) 512) + 0 ≤ 12426; omega) | (show 4222 + 16 * (min (x1.1.toNat / 6) 512) + 16 ≤ 12426; omega)⟩ (Nat.le_of_ble_eq_true rfl) dL_law_588 (fun y hy => c_X11_hang hE hL y hy) (fun x79 => ?_)
    refine Seg.step (pc' := 592) (I_aload_n (i := 2) dL_law_591 rfl rfl) ?_
    refine Seg.step (pc' := 593) (I_aload_s (i := 0) dL_law_592 rfl rfl) ?_
    refine Seg.step (pc' := 595) (I_iload dL_law_593 rfl) ?_
    refine Seg.step (pc' := 596) (I_iconst dL_law_595 ⟨by decide, by decide⟩) ?_
    refine Seg.step (pc' := 597) (I_iadd dL_law_596) ?_
    refine S_gd fun h80 => ?_
    refine Seg.step (pc' := 598) (I_sld h80 dL_law_597) ?_
    refine S_callV1 (md' := m_X12_hang) (fun y => some (iV y.1)) (fun y => (sh, false, R, y.2)) (hE _ _ sk_12) ⟨by decide, rfl⟩ mm_X12_hang wm_L_70 ⟨rfl, rfl, by decide, by decide, by first | (show 140 + 2 * (min (x1.1.toNat / 6) 512) + 0 ≤ 1166; omega) | (show 140 + 2 * (min (x1.1.toNat / 6) 512) + 2 ≤ 1166; omega), by first | (show 4222 + 16 * (min (x1.1.toNat / 6) 512) + 0 ≤ 12426; omega) | (show 4222 + 16 * (min (x1.1.toNat / 6) 512) + 16 ≤ 12426; omega)⟩ (Nat.le_of_ble_eq_true rfl) dL_law_598 (fun y hy => c_X12_hang hE hL y hy) (fun x81 => ?_)
    refine S_icmp_eq (tgt := 1743) dL_law_601 (by decide) (fun h82 => ?_) (fun h82 => ?_)
    · refine Seg.step (pc' := 1746) (I_iinc dL_law_1743 rfl (by decide) rfl) ?_
      refine Seg.step (pc' := 23) (I_goto (tgt := 23) dL_law_1746 (by decide)) ?_
      exact S_arr (fun K hK => GG.widen (by first | (show 140 + 2 * (min (x1.1.toNat / 6) 512) + 0 ≤ 140 + 2 * (min ((w32 (x1.1 + 6)).toNat / 6) 512); unfold w32 at *; omega) | (show 140 + 2 * (min (x1.1.toNat / 6) 512) + 2 ≤ 140 + 2 * (min ((w32 (x1.1 + 6)).toNat / 6) 512); unfold w32 at *; omega)) (by first | (show 4222 + 16 * (min (x1.1.toNat / 6) 512) + 0 ≤ 4222 + 16 * (min ((w32 (x1.1 + 6)).toNat / 6) 512); unfold w32 at *; omega) | (show 4222 + 16 * (min (x1.1.toNat / 6) 512) + 16 ≤ 4222 + 16 * (min ((w32 (x1.1 + 6)).toNat / 6) 512); unfold w32 at *; omega)) (GG.forget (Lle.ye (Lle.ye (Lle.ye (Lle.ye (Lle.ye (Lle.no (Lle.no (Lle.nil)))))))) hK))
    refine Seg.step (pc' := 605) (I_iconst dL_law_604 ⟨by decide, by decide⟩) ?_
    exact S_zret dL_law_605 rfl (by decide) (by first | (show 140 + 2 * (min (x1.1.toNat / 6) 512) + 0 ≤ 1166; omega) | (show 140 + 2 * (min (x1.1.toNat / 6) 512) + 2 ≤ 1166; omega)) (by first | (show 4222 + 16 * (min (x1.1.toNat / 6) 512) + 0 ≤ 12426; omega) | (show 4222 + 16 * (min (x1.1.toNat / 6) 512) + 16 ≤ 12426; omega)) (fun K hK => hK)
  refine S_ite (fun h83 => ?_) (fun h83 => ?_)
  · refine Seg.step (I_tsw (v := 10) (off := 566) (tgt := 606) dL_law_40 h83 (by decide) rfl (by decide)) ?_
    refine Seg.step (pc' := 607) (I_aload_n (i := 1) dL_law_606 rfl rfl) ?_
    refine Seg.step (pc' := 608) (I_aload_s (i := 0) dL_law_607 rfl rfl) ?_
    refine Seg.step (pc' := 610) (I_iload dL_law_608 rfl) ?_
    refine Seg.step (pc' := 611) (I_iconst dL_law_610 ⟨by decide, by decide⟩) ?_
    refine Seg.step (pc' := 612) (I_iadd dL_law_611) ?_
    refine S_gd fun h84 => ?_
    refine Seg.step (pc' := 613) (I_sld h84 dL_law_612) ?_
    refine S_bind (Y := Int) (k' := (140 + 2 * (min (x1.1.toNat / 6) 512))) (n' := (4222 + 16 * (min (x1.1.toNat / 6) 512))) 621 (fun y => [some sV, some (rV 0), some (rV 88), some (rV 139), some (iV x1.1), none, none]) (fun y => [iV y, rV 0]) (fun y => (sh, false, R, x1.2)) ?_ (fun x86 => ?_)
    · refine S_if_eq (tgt := 620) dL_law_613 (by decide) (fun h85 => ?_) (fun h85 => ?_)
      · refine Seg.step (pc' := 621) (I_iconst dL_law_620 ⟨by decide, by decide⟩) ?_
        exact S_arr (fun K hK => GG.forget (Lle.ye (Lle.ye (Lle.ye (Lle.ye (Lle.ye (Lle.no (Lle.no (Lle.nil)))))))) hK)
      refine Seg.step (pc' := 617) (I_iconst dL_law_616 ⟨by decide, by decide⟩) ?_
      refine Seg.step (pc' := 621) (I_goto (tgt := 621) dL_law_617 (by decide)) ?_
      exact S_arr (fun K hK => GG.forget (Lle.ye (Lle.ye (Lle.ye (Lle.ye (Lle.ye (Lle.no (Lle.no (Lle.nil)))))))) hK)
    refine S_callV1 (md' := m_X11_candle) (fun y => some (iV y.1)) (fun y => (sh, false, R, y.2)) (hE _ _ sk_11) ⟨by decide, rfl⟩ mm_X11_candle wm_L_71 ⟨rfl, rfl, by decide, by decide, by first | (show 140 + 2 * (min (x1.1.toNat / 6) 512) + 0 ≤ 1166; omega) | (show 140 + 2 * (min (x1.1.toNat / 6) 512) + 2 ≤ 1166; omega), by first | (show 4222 + 16 * (min (x1.1.toNat / 6) 512) + 0 ≤ 12426; omega) | (show 4222 + 16 * (min (x1.1.toNat / 6) 512) + 16 ≤ 12426; omega)⟩ (Nat.le_of_ble_eq_true rfl) dL_law_621 (fun y hy => c_X11_candle hE hL y hy) (fun x87 => ?_)
    refine Seg.step (pc' := 625) (I_aload_n (i := 2) dL_law_624 rfl rfl) ?_
    refine Seg.step (pc' := 626) (I_aload_s (i := 0) dL_law_625 rfl rfl) ?_
    refine Seg.step (pc' := 628) (I_iload dL_law_626 rfl) ?_
    refine Seg.step (pc' := 629) (I_iconst dL_law_628 ⟨by decide, by decide⟩) ?_
    refine Seg.step (pc' := 630) (I_iadd dL_law_629) ?_
    refine S_gd fun h88 => ?_
    refine Seg.step (pc' := 631) (I_sld h88 dL_law_630) ?_
    refine S_bind (Y := Int) (k' := (140 + 2 * (min (x1.1.toNat / 6) 512))) (n' := (4222 + 16 * (min (x1.1.toNat / 6) 512))) 639 (fun y => [some sV, some (rV 0), some (rV 88), some (rV 139), some (iV x1.1), none, none]) (fun y => [iV y, rV 88, iV x87.1]) (fun y => (sh, false, R, x87.2)) ?_ (fun x90 => ?_)
    · refine S_if_eq (tgt := 638) dL_law_631 (by decide) (fun h89 => ?_) (fun h89 => ?_)
      · refine Seg.step (pc' := 639) (I_iconst dL_law_638 ⟨by decide, by decide⟩) ?_
        exact S_arr (fun K hK => GG.forget (Lle.ye (Lle.ye (Lle.ye (Lle.ye (Lle.ye (Lle.no (Lle.no (Lle.nil)))))))) hK)
      refine Seg.step (pc' := 635) (I_iconst dL_law_634 ⟨by decide, by decide⟩) ?_
      refine Seg.step (pc' := 639) (I_goto (tgt := 639) dL_law_635 (by decide)) ?_
      exact S_arr (fun K hK => GG.forget (Lle.ye (Lle.ye (Lle.ye (Lle.ye (Lle.ye (Lle.no (Lle.no (Lle.nil)))))))) hK)
    refine S_callV1 (md' := m_X12_candle) (fun y => some (iV y.1)) (fun y => (sh, false, R, y.2)) (hE _ _ sk_12) ⟨by decide, rfl⟩ mm_X12_candle wm_L_75 ⟨rfl, rfl, by decide, by decide, by first | (show 140 + 2 * (min (x1.1.toNat / 6) 512) + 0 ≤ 1166; omega) | (show 140 + 2 * (min (x1.1.toNat / 6) 512) + 2 ≤ 1166; omega), by first | (show 4222 + 16 * (min (x1.1.toNat / 6) 512) + 0 ≤ 12426; omega) | (show 4222 + 16 * (min (x1.1.toNat / 6) 512) + 16 ≤ 12426; omega)⟩ (Nat.le_of_ble_eq_true rfl) dL_law_639 (fun y hy => c_X12_candle hE hL y hy) (fun x91 => ?_)
    refine S_icmp_eq (tgt := 1743) dL_law_642 (by decide) (fun h92 => ?_) (fun h92 => ?_)
    · refine Seg.step (pc' := 1746) (I_iinc dL_law_1743 rfl (by decide) rfl) ?_
      refine Seg.step (pc' := 23) (I_goto (tgt := 23) dL_law_1746 (by decide)) ?_
      exact S_arr (fun K hK => GG.widen (by first | (show 140 + 2 * (min (x1.1.toNat / 6) 512) + 0 ≤ 140 + 2 * (min ((w32 (x1.1 + 6)).toNat / 6) 512); unfold w32 at *; omega) | (show 140 + 2 * (min (x1.1.toNat / 6) 512) + 2 ≤ 140 + 2 * (min ((w32 (x1.1 + 6)).toNat / 6) 512); unfold w32 at *; omega)) (by first | (show 4222 + 16 * (min (x1.1.toNat / 6) 512) + 0 ≤ 4222 + 16 * (min ((w32 (x1.1 + 6)).toNat / 6) 512); unfold w32 at *; omega) | (show 4222 + 16 * (min (x1.1.toNat / 6) 512) + 16 ≤ 4222 + 16 * (min ((w32 (x1.1 + 6)).toNat / 6) 512); unfold w32 at *; omega)) (GG.forget (Lle.ye (Lle.ye (Lle.ye (Lle.ye (Lle.ye (Lle.no (Lle.no (Lle.nil)))))))) hK))
    refine Seg.step (pc' := 646) (I_iconst dL_law_645 ⟨by decide, by decide⟩) ?_
    exact S_zret dL_law_646 rfl (by decide) (by first | (show 140 + 2 * (min (x1.1.toNat / 6) 512) + 0 ≤ 1166; omega) | (show 140 + 2 * (min (x1.1.toNat / 6) 512) + 2 ≤ 1166; omega)) (by first | (show 4222 + 16 * (min (x1.1.toNat / 6) 512) + 0 ≤ 12426; omega) | (show 4222 + 16 * (min (x1.1.toNat / 6) 512) + 16 ≤ 12426; omega)) (fun K hK => hK)
  refine S_ite (fun h93 => ?_) (fun h93 => ?_)
  · refine Seg.step (I_tsw (v := 11) (off := 607) (tgt := 647) dL_law_40 h93 (by decide) rfl (by decide)) ?_
    refine Seg.step (pc' := 648) (I_aload_n (i := 1) dL_law_647 rfl rfl) ?_
    refine Seg.step (pc' := 649) (I_aload_s (i := 0) dL_law_648 rfl rfl) ?_
    refine Seg.step (pc' := 651) (I_iload dL_law_649 rfl) ?_
    refine Seg.step (pc' := 652) (I_iconst dL_law_651 ⟨by decide, by decide⟩) ?_
    refine Seg.step (pc' := 653) (I_iadd dL_law_652) ?_
    refine S_gd fun h94 => ?_
    refine Seg.step (pc' := 654) (I_sld h94 dL_law_653) ?_
    refine Seg.step (pc' := 655) (I_aload_s (i := 0) dL_law_654 rfl rfl) ?_
    refine Seg.step (pc' := 657) (I_iload dL_law_655 rfl) ?_
    refine Seg.step (pc' := 658) (I_iconst dL_law_657 ⟨by decide, by decide⟩) ?_
    refine Seg.step (pc' := 659) (I_iadd dL_law_658) ?_
    refine S_gd fun h95 => ?_
    refine Seg.step (pc' := 660) (I_sld h95 dL_law_659) ?_
    refine S_bind (Y := Int) (k' := (140 + 2 * (min (x1.1.toNat / 6) 512))) (n' := (4222 + 16 * (min (x1.1.toNat / 6) 512))) 668 (fun y => [some sV, some (rV 0), some (rV 88), some (rV 139), some (iV x1.1), none, none]) (fun y => [iV y, iV ((E.2.2.2.2.2.2 (w32 (x1.1 + 1)).toNat).toInt), rV 0]) (fun y => (sh, false, R, x1.2)) ?_ (fun x97 => ?_)
    · refine S_if_eq (tgt := 667) dL_law_660 (by decide) (fun h96 => ?_) (fun h96 => ?_)
      · refine Seg.step (pc' := 668) (I_iconst dL_law_667 ⟨by decide, by decide⟩) ?_
        exact S_arr (fun K hK => GG.forget (Lle.ye (Lle.ye (Lle.ye (Lle.ye (Lle.ye (Lle.no (Lle.no (Lle.nil)))))))) hK)
      refine Seg.step (pc' := 664) (I_iconst dL_law_663 ⟨by decide, by decide⟩) ?_
      refine Seg.step (pc' := 668) (I_goto (tgt := 668) dL_law_664 (by decide)) ?_
      exact S_arr (fun K hK => GG.forget (Lle.ye (Lle.ye (Lle.ye (Lle.ye (Lle.ye (Lle.no (Lle.no (Lle.nil)))))))) hK)
    refine S_callV2 (md' := m_X11_jumper) (fun y => some (iV y.1)) (fun y => (sh, false, R, y.2)) (hE _ _ sk_11) ⟨by decide, rfl⟩ mm_X11_jumper wm_L_76 ⟨rfl, rfl, by decide, by decide, by first | (show 140 + 2 * (min (x1.1.toNat / 6) 512) + 0 ≤ 1166; omega) | (show 140 + 2 * (min (x1.1.toNat / 6) 512) + 2 ≤ 1166; omega), by first | (show 4222 + 16 * (min (x1.1.toNat / 6) 512) + 0 ≤ 12426; omega) | (show 4222 + 16 * (min (x1.1.toNat / 6) 512) + 16 ≤ 12426; omega)⟩ (Nat.le_of_ble_eq_true rfl) dL_law_668 (fun y hy => c_X11_jumper hE hL y hy) (fun x98 => ?_)
    refine Seg.step (pc' := 672) (I_aload_n (i := 2) dL_law_671 rfl rfl) ?_
    refine Seg.step (pc' := 673) (I_aload_s (i := 0) dL_law_672 rfl rfl) ?_
    refine Seg.step (pc' := 675) (I_iload dL_law_673 rfl) ?_
    refine Seg.step (pc' := 676) (I_iconst dL_law_675 ⟨by decide, by decide⟩) ?_
    refine Seg.step (pc' := 677) (I_iadd dL_law_676) ?_
    refine S_gd fun h99 => ?_
    refine Seg.step (pc' := 678) (I_sld h99 dL_law_677) ?_
    refine Seg.step (pc' := 679) (I_aload_s (i := 0) dL_law_678 rfl rfl) ?_
    refine Seg.step (pc' := 681) (I_iload dL_law_679 rfl) ?_
    refine Seg.step (pc' := 682) (I_iconst dL_law_681 ⟨by decide, by decide⟩) ?_
    refine Seg.step (pc' := 683) (I_iadd dL_law_682) ?_
    refine S_gd fun h100 => ?_
    refine Seg.step (pc' := 684) (I_sld h100 dL_law_683) ?_
    refine S_bind (Y := Int) (k' := (140 + 2 * (min (x1.1.toNat / 6) 512))) (n' := (4222 + 16 * (min (x1.1.toNat / 6) 512))) 692 (fun y => [some sV, some (rV 0), some (rV 88), some (rV 139), some (iV x1.1), none, none]) (fun y => [iV y, iV ((E.2.2.2.2.2.2 (w32 (x1.1 + 1)).toNat).toInt), rV 88, iV x98.1]) (fun y => (sh, false, R, x98.2)) ?_ (fun x102 => ?_)
    · refine S_if_eq (tgt := 691) dL_law_684 (by decide) (fun h101 => ?_) (fun h101 => ?_)
      · refine Seg.step (pc' := 692) (I_iconst dL_law_691 ⟨by decide, by decide⟩) ?_
        exact S_arr (fun K hK => GG.forget (Lle.ye (Lle.ye (Lle.ye (Lle.ye (Lle.ye (Lle.no (Lle.no (Lle.nil)))))))) hK)
      refine Seg.step (pc' := 688) (I_iconst dL_law_687 ⟨by decide, by decide⟩) ?_
      refine Seg.step (pc' := 692) (I_goto (tgt := 692) dL_law_688 (by decide)) ?_
      exact S_arr (fun K hK => GG.forget (Lle.ye (Lle.ye (Lle.ye (Lle.ye (Lle.ye (Lle.no (Lle.no (Lle.nil)))))))) hK)
    refine S_callV2 (md' := m_X12_jumper) (fun y => some (iV y.1)) (fun y => (sh, false, R, y.2)) (hE _ _ sk_12) ⟨by decide, rfl⟩ mm_X12_jumper wm_L_80 ⟨rfl, rfl, by decide, by decide, by first | (show 140 + 2 * (min (x1.1.toNat / 6) 512) + 0 ≤ 1166; omega) | (show 140 + 2 * (min (x1.1.toNat / 6) 512) + 2 ≤ 1166; omega), by first | (show 4222 + 16 * (min (x1.1.toNat / 6) 512) + 0 ≤ 12426; omega) | (show 4222 + 16 * (min (x1.1.toNat / 6) 512) + 16 ≤ 12426; omega)⟩ (Nat.le_of_ble_eq_true rfl) dL_law_692 (fun y hy => c_X12_jumper hE hL y hy) (fun x103 => ?_)
    refine S_icmp_eq (tgt := 1743) dL_law_695 (by decide) (fun h104 => ?_) (fun h104 => ?_)
    · refine Seg.step (pc' := 1746) (I_iinc dL_law_1743 rfl (by decide) rfl) ?_
      refine Seg.step (pc' := 23) (I_goto (tgt := 23) dL_law_1746 (by decide)) ?_
      exact S_arr (fun K hK => GG.widen (by first | (show 140 + 2 * (min (x1.1.toNat / 6) 512) + 0 ≤ 140 + 2 * (min ((w32 (x1.1 + 6)).toNat / 6) 512); unfold w32 at *; omega) | (show 140 + 2 * (min (x1.1.toNat / 6) 512) + 2 ≤ 140 + 2 * (min ((w32 (x1.1 + 6)).toNat / 6) 512); unfold w32 at *; omega)) (by first | (show 4222 + 16 * (min (x1.1.toNat / 6) 512) + 0 ≤ 4222 + 16 * (min ((w32 (x1.1 + 6)).toNat / 6) 512); unfold w32 at *; omega) | (show 4222 + 16 * (min (x1.1.toNat / 6) 512) + 16 ≤ 4222 + 16 * (min ((w32 (x1.1 + 6)).toNat / 6) 512); unfold w32 at *; omega)) (GG.forget (Lle.ye (Lle.ye (Lle.ye (Lle.ye (Lle.ye (Lle.no (Lle.no (Lle.nil)))))))) hK))
    refine Seg.step (pc' := 699) (I_iconst dL_law_698 ⟨by decide, by decide⟩) ?_
    exact S_zret dL_law_699 rfl (by decide) (by first | (show 140 + 2 * (min (x1.1.toNat / 6) 512) + 0 ≤ 1166; omega) | (show 140 + 2 * (min (x1.1.toNat / 6) 512) + 2 ≤ 1166; omega)) (by first | (show 4222 + 16 * (min (x1.1.toNat / 6) 512) + 0 ≤ 12426; omega) | (show 4222 + 16 * (min (x1.1.toNat / 6) 512) + 16 ≤ 12426; omega)) (fun K hK => hK)
  refine S_ite (fun h105 => ?_) (fun h105 => ?_)
  · refine Seg.step (I_tsw (v := 12) (off := 660) (tgt := 700) dL_law_40 h105 (by decide) rfl (by decide)) ?_
    refine Seg.step (pc' := 701) (I_aload_n (i := 1) dL_law_700 rfl rfl) ?_
    refine Seg.step (pc' := 702) (I_aload_s (i := 0) dL_law_701 rfl rfl) ?_
    refine Seg.step (pc' := 704) (I_iload dL_law_702 rfl) ?_
    refine Seg.step (pc' := 705) (I_iconst dL_law_704 ⟨by decide, by decide⟩) ?_
    refine Seg.step (pc' := 706) (I_iadd dL_law_705) ?_
    refine S_gd fun h106 => ?_
    refine Seg.step (pc' := 707) (I_sld h106 dL_law_706) ?_
    refine S_callV1 (md' := m_X11_go) (fun y => some (iV y.1)) (fun y => (sh, false, R, y.2)) (hE _ _ sk_11) ⟨by decide, rfl⟩ mm_X11_go wm_L_81 ⟨rfl, rfl, by decide, by decide, by first | (show 140 + 2 * (min (x1.1.toNat / 6) 512) + 0 ≤ 1166; omega) | (show 140 + 2 * (min (x1.1.toNat / 6) 512) + 2 ≤ 1166; omega), by first | (show 4222 + 16 * (min (x1.1.toNat / 6) 512) + 0 ≤ 12426; omega) | (show 4222 + 16 * (min (x1.1.toNat / 6) 512) + 16 ≤ 12426; omega)⟩ (Nat.le_of_ble_eq_true rfl) dL_law_707 (fun y hy => c_X11_go hE hL y hy) (fun x107 => ?_)
    refine Seg.step (pc' := 711) (I_aload_n (i := 2) dL_law_710 rfl rfl) ?_
    refine Seg.step (pc' := 712) (I_aload_s (i := 0) dL_law_711 rfl rfl) ?_
    refine Seg.step (pc' := 714) (I_iload dL_law_712 rfl) ?_
    refine Seg.step (pc' := 715) (I_iconst dL_law_714 ⟨by decide, by decide⟩) ?_
    refine Seg.step (pc' := 716) (I_iadd dL_law_715) ?_
    refine S_gd fun h108 => ?_
    refine Seg.step (pc' := 717) (I_sld h108 dL_law_716) ?_
    refine S_callV1 (md' := m_X12_go) (fun y => some (iV y.1)) (fun y => (sh, false, R, y.2)) (hE _ _ sk_12) ⟨by decide, rfl⟩ mm_X12_go wm_L_84 ⟨rfl, rfl, by decide, by decide, by first | (show 140 + 2 * (min (x1.1.toNat / 6) 512) + 0 ≤ 1166; omega) | (show 140 + 2 * (min (x1.1.toNat / 6) 512) + 2 ≤ 1166; omega), by first | (show 4222 + 16 * (min (x1.1.toNat / 6) 512) + 0 ≤ 12426; omega) | (show 4222 + 16 * (min (x1.1.toNat / 6) 512) + 16 ≤ 12426; omega)⟩ (Nat.le_of_ble_eq_true rfl) dL_law_717 (fun y hy => c_X12_go hE hL y hy) (fun x109 => ?_)
    refine S_icmp_eq (tgt := 1743) dL_law_720 (by decide) (fun h110 => ?_) (fun h110 => ?_)
    · refine Seg.step (pc' := 1746) (I_iinc dL_law_1743 rfl (by decide) rfl) ?_
      refine Seg.step (pc' := 23) (I_goto (tgt := 23) dL_law_1746 (by decide)) ?_
      exact S_arr (fun K hK => GG.widen (by first | (show 140 + 2 * (min (x1.1.toNat / 6) 512) + 0 ≤ 140 + 2 * (min ((w32 (x1.1 + 6)).toNat / 6) 512); unfold w32 at *; omega) | (show 140 + 2 * (min (x1.1.toNat / 6) 512) + 2 ≤ 140 + 2 * (min ((w32 (x1.1 + 6)).toNat / 6) 512); unfold w32 at *; omega)) (by first | (show 4222 + 16 * (min (x1.1.toNat / 6) 512) + 0 ≤ 4222 + 16 * (min ((w32 (x1.1 + 6)).toNat / 6) 512); unfold w32 at *; omega) | (show 4222 + 16 * (min (x1.1.toNat / 6) 512) + 16 ≤ 4222 + 16 * (min ((w32 (x1.1 + 6)).toNat / 6) 512); unfold w32 at *; omega)) (GG.forget (Lle.ye (Lle.ye (Lle.ye (Lle.ye (Lle.ye (Lle.no (Lle.no (Lle.nil)))))))) hK))
    refine Seg.step (pc' := 724) (I_iconst dL_law_723 ⟨by decide, by decide⟩) ?_
    exact S_zret dL_law_724 rfl (by decide) (by first | (show 140 + 2 * (min (x1.1.toNat / 6) 512) + 0 ≤ 1166; omega) | (show 140 + 2 * (min (x1.1.toNat / 6) 512) + 2 ≤ 1166; omega)) (by first | (show 4222 + 16 * (min (x1.1.toNat / 6) 512) + 0 ≤ 12426; omega) | (show 4222 + 16 * (min (x1.1.toNat / 6) 512) + 16 ≤ 12426; omega)) (fun K hK => hK)
  refine S_ite (fun h111 => ?_) (fun h111 => ?_)
  · refine Seg.step (I_tsw (v := 13) (off := 685) (tgt := 725) dL_law_40 h111 (by decide) rfl (by decide)) ?_
    refine Seg.step (pc' := 726) (I_aload_n (i := 1) dL_law_725 rfl rfl) ?_
    refine Seg.step (pc' := 727) (I_aload_s (i := 0) dL_law_726 rfl rfl) ?_
    refine Seg.step (pc' := 729) (I_iload dL_law_727 rfl) ?_
    refine Seg.step (pc' := 730) (I_iconst dL_law_729 ⟨by decide, by decide⟩) ?_
    refine Seg.step (pc' := 731) (I_iadd dL_law_730) ?_
    refine S_gd fun h112 => ?_
    refine Seg.step (pc' := 732) (I_sld h112 dL_law_731) ?_
    refine Seg.step (pc' := 733) (I_aload_s (i := 0) dL_law_732 rfl rfl) ?_
    refine Seg.step (pc' := 735) (I_iload dL_law_733 rfl) ?_
    refine Seg.step (pc' := 736) (I_iconst dL_law_735 ⟨by decide, by decide⟩) ?_
    refine Seg.step (pc' := 737) (I_iadd dL_law_736) ?_
    refine S_gd fun h113 => ?_
    refine Seg.step (pc' := 738) (I_sld h113 dL_law_737) ?_
    refine Seg.step (pc' := 739) (I_aload_s (i := 0) dL_law_738 rfl rfl) ?_
    refine Seg.step (pc' := 741) (I_iload dL_law_739 rfl) ?_
    refine Seg.step (pc' := 742) (I_iconst dL_law_741 ⟨by decide, by decide⟩) ?_
    refine Seg.step (pc' := 743) (I_iadd dL_law_742) ?_
    refine S_gd fun h114 => ?_
    refine Seg.step (pc' := 744) (I_sld h114 dL_law_743) ?_
    refine S_callV3 (md' := m_X11_ahead) (fun y => some (iV y.1)) (fun y => (sh, false, R, y.2)) (hE _ _ sk_11) ⟨by decide, rfl⟩ mm_X11_ahead wm_L_85 ⟨rfl, rfl, by decide, by decide, by first | (show 140 + 2 * (min (x1.1.toNat / 6) 512) + 0 ≤ 1166; omega) | (show 140 + 2 * (min (x1.1.toNat / 6) 512) + 2 ≤ 1166; omega), by first | (show 4222 + 16 * (min (x1.1.toNat / 6) 512) + 0 ≤ 12426; omega) | (show 4222 + 16 * (min (x1.1.toNat / 6) 512) + 16 ≤ 12426; omega)⟩ (Nat.le_of_ble_eq_true rfl) dL_law_744 (fun y hy => c_X11_ahead hE hL y hy) (fun x115 => ?_)
    refine Seg.step (pc' := 748) (I_aload_n (i := 2) dL_law_747 rfl rfl) ?_
    refine Seg.step (pc' := 749) (I_aload_s (i := 0) dL_law_748 rfl rfl) ?_
    refine Seg.step (pc' := 751) (I_iload dL_law_749 rfl) ?_
    refine Seg.step (pc' := 752) (I_iconst dL_law_751 ⟨by decide, by decide⟩) ?_
    refine Seg.step (pc' := 753) (I_iadd dL_law_752) ?_
    refine S_gd fun h116 => ?_
    refine Seg.step (pc' := 754) (I_sld h116 dL_law_753) ?_
    refine Seg.step (pc' := 755) (I_aload_s (i := 0) dL_law_754 rfl rfl) ?_
    refine Seg.step (pc' := 757) (I_iload dL_law_755 rfl) ?_
    refine Seg.step (pc' := 758) (I_iconst dL_law_757 ⟨by decide, by decide⟩) ?_
    refine Seg.step (pc' := 759) (I_iadd dL_law_758) ?_
    refine S_gd fun h117 => ?_
    refine Seg.step (pc' := 760) (I_sld h117 dL_law_759) ?_
    refine Seg.step (pc' := 761) (I_aload_s (i := 0) dL_law_760 rfl rfl) ?_
    refine Seg.step (pc' := 763) (I_iload dL_law_761 rfl) ?_
    refine Seg.step (pc' := 764) (I_iconst dL_law_763 ⟨by decide, by decide⟩) ?_
    refine Seg.step (pc' := 765) (I_iadd dL_law_764) ?_
    refine S_gd fun h118 => ?_
    refine Seg.step (pc' := 766) (I_sld h118 dL_law_765) ?_
    refine S_callV3 (md' := m_X12_ahead) (fun y => some (iV y.1)) (fun y => (sh, false, R, y.2)) (hE _ _ sk_12) ⟨by decide, rfl⟩ mm_X12_ahead wm_L_89 ⟨rfl, rfl, by decide, by decide, by first | (show 140 + 2 * (min (x1.1.toNat / 6) 512) + 0 ≤ 1166; omega) | (show 140 + 2 * (min (x1.1.toNat / 6) 512) + 2 ≤ 1166; omega), by first | (show 4222 + 16 * (min (x1.1.toNat / 6) 512) + 0 ≤ 12426; omega) | (show 4222 + 16 * (min (x1.1.toNat / 6) 512) + 16 ≤ 12426; omega)⟩ (Nat.le_of_ble_eq_true rfl) dL_law_766 (fun y hy => c_X12_ahead hE hL y hy) (fun x119 => ?_)
    refine S_icmp_eq (tgt := 1743) dL_law_769 (by decide) (fun h120 => ?_) (fun h120 => ?_)
    · refine Seg.step (pc' := 1746) (I_iinc dL_law_1743 rfl (by decide) rfl) ?_
      refine Seg.step (pc' := 23) (I_goto (tgt := 23) dL_law_1746 (by decide)) ?_
      exact S_arr (fun K hK => GG.widen (by first | (show 140 + 2 * (min (x1.1.toNat / 6) 512) + 0 ≤ 140 + 2 * (min ((w32 (x1.1 + 6)).toNat / 6) 512); unfold w32 at *; omega) | (show 140 + 2 * (min (x1.1.toNat / 6) 512) + 2 ≤ 140 + 2 * (min ((w32 (x1.1 + 6)).toNat / 6) 512); unfold w32 at *; omega)) (by first | (show 4222 + 16 * (min (x1.1.toNat / 6) 512) + 0 ≤ 4222 + 16 * (min ((w32 (x1.1 + 6)).toNat / 6) 512); unfold w32 at *; omega) | (show 4222 + 16 * (min (x1.1.toNat / 6) 512) + 16 ≤ 4222 + 16 * (min ((w32 (x1.1 + 6)).toNat / 6) 512); unfold w32 at *; omega)) (GG.forget (Lle.ye (Lle.ye (Lle.ye (Lle.ye (Lle.ye (Lle.no (Lle.no (Lle.nil)))))))) hK))
    refine Seg.step (pc' := 773) (I_iconst dL_law_772 ⟨by decide, by decide⟩) ?_
    exact S_zret dL_law_773 rfl (by decide) (by first | (show 140 + 2 * (min (x1.1.toNat / 6) 512) + 0 ≤ 1166; omega) | (show 140 + 2 * (min (x1.1.toNat / 6) 512) + 2 ≤ 1166; omega)) (by first | (show 4222 + 16 * (min (x1.1.toNat / 6) 512) + 0 ≤ 12426; omega) | (show 4222 + 16 * (min (x1.1.toNat / 6) 512) + 16 ≤ 12426; omega)) (fun K hK => hK)
  refine S_ite (fun h121 => ?_) (fun h121 => ?_)
  · refine Seg.step (I_tsw (v := 14) (off := 734) (tgt := 774) dL_law_40 h121 (by decide) rfl (by decide)) ?_
    refine Seg.step (pc' := 775) (I_aload_n (i := 1) dL_law_774 rfl rfl) ?_
    refine Seg.step (pc' := 776) (I_aload_s (i := 0) dL_law_775 rfl rfl) ?_
    refine Seg.step (pc' := 778) (I_iload dL_law_776 rfl) ?_
    refine Seg.step (pc' := 779) (I_iconst dL_law_778 ⟨by decide, by decide⟩) ?_
    refine Seg.step (pc' := 780) (I_iadd dL_law_779) ?_
    refine S_gd fun h122 => ?_
    refine Seg.step (pc' := 781) (I_sld h122 dL_law_780) ?_
    refine Seg.step (pc' := 782) (I_aload_s (i := 0) dL_law_781 rfl rfl) ?_
    refine Seg.step (pc' := 784) (I_iload dL_law_782 rfl) ?_
    refine Seg.step (pc' := 785) (I_iconst dL_law_784 ⟨by decide, by decide⟩) ?_
    refine Seg.step (pc' := 786) (I_iadd dL_law_785) ?_
    refine S_gd fun h123 => ?_
    refine Seg.step (pc' := 787) (I_sld h123 dL_law_786) ?_
    refine Seg.step (pc' := 788) (I_aload_s (i := 0) dL_law_787 rfl rfl) ?_
    refine Seg.step (pc' := 790) (I_iload dL_law_788 rfl) ?_
    refine Seg.step (pc' := 791) (I_iconst dL_law_790 ⟨by decide, by decide⟩) ?_
    refine Seg.step (pc' := 792) (I_iadd dL_law_791) ?_
    refine S_gd fun h124 => ?_
    refine Seg.step (pc' := 793) (I_sld h124 dL_law_792) ?_
    refine S_callV3 (md' := m_X11_soon) (fun y => some (iV y.1)) (fun y => (sh, false, R, y.2)) (hE _ _ sk_11) ⟨by decide, rfl⟩ mm_X11_soon wm_L_90 ⟨rfl, rfl, by decide, by decide, by first | (show 140 + 2 * (min (x1.1.toNat / 6) 512) + 0 ≤ 1166; omega) | (show 140 + 2 * (min (x1.1.toNat / 6) 512) + 2 ≤ 1166; omega), by first | (show 4222 + 16 * (min (x1.1.toNat / 6) 512) + 0 ≤ 12426; omega) | (show 4222 + 16 * (min (x1.1.toNat / 6) 512) + 16 ≤ 12426; omega)⟩ (Nat.le_of_ble_eq_true rfl) dL_law_793 (fun y hy => c_X11_soon hE hL y hy) (fun x125 => ?_)
    refine Seg.step (pc' := 797) (I_aload_n (i := 2) dL_law_796 rfl rfl) ?_
    refine Seg.step (pc' := 798) (I_aload_s (i := 0) dL_law_797 rfl rfl) ?_
    refine Seg.step (pc' := 800) (I_iload dL_law_798 rfl) ?_
    refine Seg.step (pc' := 801) (I_iconst dL_law_800 ⟨by decide, by decide⟩) ?_
    refine Seg.step (pc' := 802) (I_iadd dL_law_801) ?_
    refine S_gd fun h126 => ?_
    refine Seg.step (pc' := 803) (I_sld h126 dL_law_802) ?_
    refine Seg.step (pc' := 804) (I_aload_s (i := 0) dL_law_803 rfl rfl) ?_
    refine Seg.step (pc' := 806) (I_iload dL_law_804 rfl) ?_
    refine Seg.step (pc' := 807) (I_iconst dL_law_806 ⟨by decide, by decide⟩) ?_
    refine Seg.step (pc' := 808) (I_iadd dL_law_807) ?_
    refine S_gd fun h127 => ?_
    refine Seg.step (pc' := 809) (I_sld h127 dL_law_808) ?_
    refine Seg.step (pc' := 810) (I_aload_s (i := 0) dL_law_809 rfl rfl) ?_
    refine Seg.step (pc' := 812) (I_iload dL_law_810 rfl) ?_
    refine Seg.step (pc' := 813) (I_iconst dL_law_812 ⟨by decide, by decide⟩) ?_
    refine Seg.step (pc' := 814) (I_iadd dL_law_813) ?_
    refine S_gd fun h128 => ?_
    refine Seg.step (pc' := 815) (I_sld h128 dL_law_814) ?_
    refine S_callV3 (md' := m_X12_soon) (fun y => some (iV y.1)) (fun y => (sh, false, R, y.2)) (hE _ _ sk_12) ⟨by decide, rfl⟩ mm_X12_soon wm_L_93 ⟨rfl, rfl, by decide, by decide, by first | (show 140 + 2 * (min (x1.1.toNat / 6) 512) + 0 ≤ 1166; omega) | (show 140 + 2 * (min (x1.1.toNat / 6) 512) + 2 ≤ 1166; omega), by first | (show 4222 + 16 * (min (x1.1.toNat / 6) 512) + 0 ≤ 12426; omega) | (show 4222 + 16 * (min (x1.1.toNat / 6) 512) + 16 ≤ 12426; omega)⟩ (Nat.le_of_ble_eq_true rfl) dL_law_815 (fun y hy => c_X12_soon hE hL y hy) (fun x129 => ?_)
    refine S_icmp_eq (tgt := 1743) dL_law_818 (by decide) (fun h130 => ?_) (fun h130 => ?_)
    · refine Seg.step (pc' := 1746) (I_iinc dL_law_1743 rfl (by decide) rfl) ?_
      refine Seg.step (pc' := 23) (I_goto (tgt := 23) dL_law_1746 (by decide)) ?_
      exact S_arr (fun K hK => GG.widen (by first | (show 140 + 2 * (min (x1.1.toNat / 6) 512) + 0 ≤ 140 + 2 * (min ((w32 (x1.1 + 6)).toNat / 6) 512); unfold w32 at *; omega) | (show 140 + 2 * (min (x1.1.toNat / 6) 512) + 2 ≤ 140 + 2 * (min ((w32 (x1.1 + 6)).toNat / 6) 512); unfold w32 at *; omega)) (by first | (show 4222 + 16 * (min (x1.1.toNat / 6) 512) + 0 ≤ 4222 + 16 * (min ((w32 (x1.1 + 6)).toNat / 6) 512); unfold w32 at *; omega) | (show 4222 + 16 * (min (x1.1.toNat / 6) 512) + 16 ≤ 4222 + 16 * (min ((w32 (x1.1 + 6)).toNat / 6) 512); unfold w32 at *; omega)) (GG.forget (Lle.ye (Lle.ye (Lle.ye (Lle.ye (Lle.ye (Lle.no (Lle.no (Lle.nil)))))))) hK))
    refine Seg.step (pc' := 822) (I_iconst dL_law_821 ⟨by decide, by decide⟩) ?_
    exact S_zret dL_law_822 rfl (by decide) (by first | (show 140 + 2 * (min (x1.1.toNat / 6) 512) + 0 ≤ 1166; omega) | (show 140 + 2 * (min (x1.1.toNat / 6) 512) + 2 ≤ 1166; omega)) (by first | (show 4222 + 16 * (min (x1.1.toNat / 6) 512) + 0 ≤ 12426; omega) | (show 4222 + 16 * (min (x1.1.toNat / 6) 512) + 16 ≤ 12426; omega)) (fun K hK => hK)
  refine S_ite (fun h131 => ?_) (fun h131 => ?_)
  · refine Seg.step (I_tsw (v := 15) (off := 783) (tgt := 823) dL_law_40 h131 (by decide) rfl (by decide)) ?_
    refine Seg.step (pc' := 824) (I_aload_n (i := 1) dL_law_823 rfl rfl) ?_
    refine Seg.step (pc' := 825) (I_aload_s (i := 0) dL_law_824 rfl rfl) ?_
    refine Seg.step (pc' := 827) (I_iload dL_law_825 rfl) ?_
    refine Seg.step (pc' := 828) (I_iconst dL_law_827 ⟨by decide, by decide⟩) ?_
    refine Seg.step (pc' := 829) (I_iadd dL_law_828) ?_
    refine S_gd fun h132 => ?_
    refine Seg.step (pc' := 830) (I_sld h132 dL_law_829) ?_
    refine Seg.step (pc' := 831) (I_aload_s (i := 0) dL_law_830 rfl rfl) ?_
    refine Seg.step (pc' := 833) (I_iload dL_law_831 rfl) ?_
    refine Seg.step (pc' := 834) (I_iconst dL_law_833 ⟨by decide, by decide⟩) ?_
    refine Seg.step (pc' := 835) (I_iadd dL_law_834) ?_
    refine S_gd fun h133 => ?_
    refine Seg.step (pc' := 836) (I_sld h133 dL_law_835) ?_
    refine Seg.step (pc' := 837) (I_aload_s (i := 0) dL_law_836 rfl rfl) ?_
    refine Seg.step (pc' := 839) (I_iload dL_law_837 rfl) ?_
    refine Seg.step (pc' := 840) (I_iconst dL_law_839 ⟨by decide, by decide⟩) ?_
    refine Seg.step (pc' := 841) (I_iadd dL_law_840) ?_
    refine S_gd fun h134 => ?_
    refine Seg.step (pc' := 842) (I_sld h134 dL_law_841) ?_
    refine Seg.step (pc' := 843) (I_aload_s (i := 0) dL_law_842 rfl rfl) ?_
    refine Seg.step (pc' := 845) (I_iload dL_law_843 rfl) ?_
    refine Seg.step (pc' := 846) (I_iconst dL_law_845 ⟨by decide, by decide⟩) ?_
    refine Seg.step (pc' := 847) (I_iadd dL_law_846) ?_
    refine S_gd fun h135 => ?_
    refine Seg.step (pc' := 848) (I_sld h135 dL_law_847) ?_
    refine S_callV4 (md' := m_X11_quicker) (fun y => some (iV y.1)) (fun y => (sh, false, R, y.2)) (hE _ _ sk_11) ⟨by decide, rfl⟩ mm_X11_quicker wm_L_94 ⟨rfl, rfl, by decide, by decide, by first | (show 140 + 2 * (min (x1.1.toNat / 6) 512) + 0 ≤ 1166; omega) | (show 140 + 2 * (min (x1.1.toNat / 6) 512) + 2 ≤ 1166; omega), by first | (show 4222 + 16 * (min (x1.1.toNat / 6) 512) + 0 ≤ 12426; omega) | (show 4222 + 16 * (min (x1.1.toNat / 6) 512) + 16 ≤ 12426; omega)⟩ (Nat.le_of_ble_eq_true rfl) dL_law_848 (fun y hy => c_X11_quicker hE hL y hy) (fun x136 => ?_)
    refine Seg.step (pc' := 852) (I_aload_n (i := 2) dL_law_851 rfl rfl) ?_
    refine Seg.step (pc' := 853) (I_aload_s (i := 0) dL_law_852 rfl rfl) ?_
    refine Seg.step (pc' := 855) (I_iload dL_law_853 rfl) ?_
    refine Seg.step (pc' := 856) (I_iconst dL_law_855 ⟨by decide, by decide⟩) ?_
    refine Seg.step (pc' := 857) (I_iadd dL_law_856) ?_
    refine S_gd fun h137 => ?_
    refine Seg.step (pc' := 858) (I_sld h137 dL_law_857) ?_
    refine Seg.step (pc' := 859) (I_aload_s (i := 0) dL_law_858 rfl rfl) ?_
    refine Seg.step (pc' := 861) (I_iload dL_law_859 rfl) ?_
    refine Seg.step (pc' := 862) (I_iconst dL_law_861 ⟨by decide, by decide⟩) ?_
    refine Seg.step (pc' := 863) (I_iadd dL_law_862) ?_
    refine S_gd fun h138 => ?_
    refine Seg.step (pc' := 864) (I_sld h138 dL_law_863) ?_
    refine Seg.step (pc' := 865) (I_aload_s (i := 0) dL_law_864 rfl rfl) ?_
    refine Seg.step (pc' := 867) (I_iload dL_law_865 rfl) ?_
    refine Seg.step (pc' := 868) (I_iconst dL_law_867 ⟨by decide, by decide⟩) ?_
    refine Seg.step (pc' := 869) (I_iadd dL_law_868) ?_
    refine S_gd fun h139 => ?_
    refine Seg.step (pc' := 870) (I_sld h139 dL_law_869) ?_
    refine Seg.step (pc' := 871) (I_aload_s (i := 0) dL_law_870 rfl rfl) ?_
    refine Seg.step (pc' := 873) (I_iload dL_law_871 rfl) ?_
    refine Seg.step (pc' := 874) (I_iconst dL_law_873 ⟨by decide, by decide⟩) ?_
    refine Seg.step (pc' := 875) (I_iadd dL_law_874) ?_
    refine S_gd fun h140 => ?_
    refine Seg.step (pc' := 876) (I_sld h140 dL_law_875) ?_
    refine S_callV4 (md' := m_X12_quicker) (fun y => some (iV y.1)) (fun y => (sh, false, R, y.2)) (hE _ _ sk_12) ⟨by decide, rfl⟩ mm_X12_quicker wm_L_98 ⟨rfl, rfl, by decide, by decide, by first | (show 140 + 2 * (min (x1.1.toNat / 6) 512) + 0 ≤ 1166; omega) | (show 140 + 2 * (min (x1.1.toNat / 6) 512) + 2 ≤ 1166; omega), by first | (show 4222 + 16 * (min (x1.1.toNat / 6) 512) + 0 ≤ 12426; omega) | (show 4222 + 16 * (min (x1.1.toNat / 6) 512) + 16 ≤ 12426; omega)⟩ (Nat.le_of_ble_eq_true rfl) dL_law_876 (fun y hy => c_X12_quicker hE hL y hy) (fun x141 => ?_)
    refine S_icmp_eq (tgt := 1743) dL_law_879 (by decide) (fun h142 => ?_) (fun h142 => ?_)
    · refine Seg.step (pc' := 1746) (I_iinc dL_law_1743 rfl (by decide) rfl) ?_
      refine Seg.step (pc' := 23) (I_goto (tgt := 23) dL_law_1746 (by decide)) ?_
      exact S_arr (fun K hK => GG.widen (by first | (show 140 + 2 * (min (x1.1.toNat / 6) 512) + 0 ≤ 140 + 2 * (min ((w32 (x1.1 + 6)).toNat / 6) 512); unfold w32 at *; omega) | (show 140 + 2 * (min (x1.1.toNat / 6) 512) + 2 ≤ 140 + 2 * (min ((w32 (x1.1 + 6)).toNat / 6) 512); unfold w32 at *; omega)) (by first | (show 4222 + 16 * (min (x1.1.toNat / 6) 512) + 0 ≤ 4222 + 16 * (min ((w32 (x1.1 + 6)).toNat / 6) 512); unfold w32 at *; omega) | (show 4222 + 16 * (min (x1.1.toNat / 6) 512) + 16 ≤ 4222 + 16 * (min ((w32 (x1.1 + 6)).toNat / 6) 512); unfold w32 at *; omega)) (GG.forget (Lle.ye (Lle.ye (Lle.ye (Lle.ye (Lle.ye (Lle.no (Lle.no (Lle.nil)))))))) hK))
    refine Seg.step (pc' := 883) (I_iconst dL_law_882 ⟨by decide, by decide⟩) ?_
    exact S_zret dL_law_883 rfl (by decide) (by first | (show 140 + 2 * (min (x1.1.toNat / 6) 512) + 0 ≤ 1166; omega) | (show 140 + 2 * (min (x1.1.toNat / 6) 512) + 2 ≤ 1166; omega)) (by first | (show 4222 + 16 * (min (x1.1.toNat / 6) 512) + 0 ≤ 12426; omega) | (show 4222 + 16 * (min (x1.1.toNat / 6) 512) + 16 ≤ 12426; omega)) (fun K hK => hK)
  refine S_ite (fun h143 => ?_) (fun h143 => ?_)
  · refine Seg.step (I_tsw (v := 16) (off := 844) (tgt := 884) dL_law_40 h143 (by decide) rfl (by decide)) ?_
    refine Seg.step (pc' := 885) (I_aload_n (i := 1) dL_law_884 rfl rfl) ?_
    refine Seg.step (pc' := 886) (I_aload_s (i := 0) dL_law_885 rfl rfl) ?_
    refine Seg.step (pc' := 888) (I_iload dL_law_886 rfl) ?_
    refine Seg.step (pc' := 889) (I_iconst dL_law_888 ⟨by decide, by decide⟩) ?_
    refine Seg.step (pc' := 890) (I_iadd dL_law_889) ?_
    refine S_gd fun h144 => ?_
    refine Seg.step (pc' := 891) (I_sld h144 dL_law_890) ?_
    refine Seg.step (pc' := 892) (I_aload_s (i := 0) dL_law_891 rfl rfl) ?_
    refine Seg.step (pc' := 894) (I_iload dL_law_892 rfl) ?_
    refine Seg.step (pc' := 895) (I_iconst dL_law_894 ⟨by decide, by decide⟩) ?_
    refine Seg.step (pc' := 896) (I_iadd dL_law_895) ?_
    refine S_gd fun h145 => ?_
    refine Seg.step (pc' := 897) (I_sld h145 dL_law_896) ?_
    refine S_callV2 (md' := m_X11_best) (fun y => some (iV y.1)) (fun y => (sh, false, R, y.2)) (hE _ _ sk_11) ⟨by decide, rfl⟩ mm_X11_best wm_L_99 ⟨rfl, rfl, by decide, by decide, by first | (show 140 + 2 * (min (x1.1.toNat / 6) 512) + 0 ≤ 1166; omega) | (show 140 + 2 * (min (x1.1.toNat / 6) 512) + 2 ≤ 1166; omega), by first | (show 4222 + 16 * (min (x1.1.toNat / 6) 512) + 0 ≤ 12426; omega) | (show 4222 + 16 * (min (x1.1.toNat / 6) 512) + 16 ≤ 12426; omega)⟩ (Nat.le_of_ble_eq_true rfl) dL_law_897 (fun y hy => c_X11_best hE hL y hy) (fun x146 => ?_)
    refine Seg.step (pc' := 901) (I_aload_n (i := 2) dL_law_900 rfl rfl) ?_
    refine Seg.step (pc' := 902) (I_aload_s (i := 0) dL_law_901 rfl rfl) ?_
    refine Seg.step (pc' := 904) (I_iload dL_law_902 rfl) ?_
    refine Seg.step (pc' := 905) (I_iconst dL_law_904 ⟨by decide, by decide⟩) ?_
    refine Seg.step (pc' := 906) (I_iadd dL_law_905) ?_
    refine S_gd fun h147 => ?_
    refine Seg.step (pc' := 907) (I_sld h147 dL_law_906) ?_
    refine Seg.step (pc' := 908) (I_aload_s (i := 0) dL_law_907 rfl rfl) ?_
    refine Seg.step (pc' := 910) (I_iload dL_law_908 rfl) ?_
    refine Seg.step (pc' := 911) (I_iconst dL_law_910 ⟨by decide, by decide⟩) ?_
    refine Seg.step (pc' := 912) (I_iadd dL_law_911) ?_
    refine S_gd fun h148 => ?_
    refine Seg.step (pc' := 913) (I_sld h148 dL_law_912) ?_
    refine S_callV2 (md' := m_X12_best) (fun y => some (iV y.1)) (fun y => (sh, false, R, y.2)) (hE _ _ sk_12) ⟨by decide, rfl⟩ mm_X12_best wm_L_102 ⟨rfl, rfl, by decide, by decide, by first | (show 140 + 2 * (min (x1.1.toNat / 6) 512) + 0 ≤ 1166; omega) | (show 140 + 2 * (min (x1.1.toNat / 6) 512) + 2 ≤ 1166; omega), by first | (show 4222 + 16 * (min (x1.1.toNat / 6) 512) + 0 ≤ 12426; omega) | (show 4222 + 16 * (min (x1.1.toNat / 6) 512) + 16 ≤ 12426; omega)⟩ (Nat.le_of_ble_eq_true rfl) dL_law_913 (fun y hy => c_X12_best hE hL y hy) (fun x149 => ?_)
    refine S_icmp_eq (tgt := 1743) dL_law_916 (by decide) (fun h150 => ?_) (fun h150 => ?_)
    · refine Seg.step (pc' := 1746) (I_iinc dL_law_1743 rfl (by decide) rfl) ?_
      refine Seg.step (pc' := 23) (I_goto (tgt := 23) dL_law_1746 (by decide)) ?_
      exact S_arr (fun K hK => GG.widen (by first | (show 140 + 2 * (min (x1.1.toNat / 6) 512) + 0 ≤ 140 + 2 * (min ((w32 (x1.1 + 6)).toNat / 6) 512); unfold w32 at *; omega) | (show 140 + 2 * (min (x1.1.toNat / 6) 512) + 2 ≤ 140 + 2 * (min ((w32 (x1.1 + 6)).toNat / 6) 512); unfold w32 at *; omega)) (by first | (show 4222 + 16 * (min (x1.1.toNat / 6) 512) + 0 ≤ 4222 + 16 * (min ((w32 (x1.1 + 6)).toNat / 6) 512); unfold w32 at *; omega) | (show 4222 + 16 * (min (x1.1.toNat / 6) 512) + 16 ≤ 4222 + 16 * (min ((w32 (x1.1 + 6)).toNat / 6) 512); unfold w32 at *; omega)) (GG.forget (Lle.ye (Lle.ye (Lle.ye (Lle.ye (Lle.ye (Lle.no (Lle.no (Lle.nil)))))))) hK))
    refine Seg.step (pc' := 920) (I_iconst dL_law_919 ⟨by decide, by decide⟩) ?_
    exact S_zret dL_law_920 rfl (by decide) (by first | (show 140 + 2 * (min (x1.1.toNat / 6) 512) + 0 ≤ 1166; omega) | (show 140 + 2 * (min (x1.1.toNat / 6) 512) + 2 ≤ 1166; omega)) (by first | (show 4222 + 16 * (min (x1.1.toNat / 6) 512) + 0 ≤ 12426; omega) | (show 4222 + 16 * (min (x1.1.toNat / 6) 512) + 16 ≤ 12426; omega)) (fun K hK => hK)
  refine S_ite (fun h151 => ?_) (fun h151 => ?_)
  · refine Seg.step (I_tsw (v := 17) (off := 881) (tgt := 921) dL_law_40 h151 (by decide) rfl (by decide)) ?_
    refine Seg.step (pc' := 922) (I_aload_n (i := 1) dL_law_921 rfl rfl) ?_
    refine Seg.step (pc' := 923) (I_aload_s (i := 0) dL_law_922 rfl rfl) ?_
    refine Seg.step (pc' := 925) (I_iload dL_law_923 rfl) ?_
    refine Seg.step (pc' := 926) (I_iconst dL_law_925 ⟨by decide, by decide⟩) ?_
    refine Seg.step (pc' := 927) (I_iadd dL_law_926) ?_
    refine S_gd fun h152 => ?_
    refine Seg.step (pc' := 928) (I_sld h152 dL_law_927) ?_
    refine Seg.step (pc' := 929) (I_aload_s (i := 0) dL_law_928 rfl rfl) ?_
    refine Seg.step (pc' := 931) (I_iload dL_law_929 rfl) ?_
    refine Seg.step (pc' := 932) (I_iconst dL_law_931 ⟨by decide, by decide⟩) ?_
    refine Seg.step (pc' := 933) (I_iadd dL_law_932) ?_
    refine S_gd fun h153 => ?_
    refine Seg.step (pc' := 934) (I_sld h153 dL_law_933) ?_
    refine S_callV2 (md' := m_X11_cheap) (fun y => some (iV y.1)) (fun y => (sh, false, R, y.2)) (hE _ _ sk_11) ⟨by decide, rfl⟩ mm_X11_cheap wm_L_103 ⟨rfl, rfl, by decide, by decide, by first | (show 140 + 2 * (min (x1.1.toNat / 6) 512) + 0 ≤ 1166; omega) | (show 140 + 2 * (min (x1.1.toNat / 6) 512) + 2 ≤ 1166; omega), by first | (show 4222 + 16 * (min (x1.1.toNat / 6) 512) + 0 ≤ 12426; omega) | (show 4222 + 16 * (min (x1.1.toNat / 6) 512) + 16 ≤ 12426; omega)⟩ (Nat.le_of_ble_eq_true rfl) dL_law_934 (fun y hy => c_X11_cheap hE hL y hy) (fun x154 => ?_)
    refine Seg.step (pc' := 938) (I_aload_n (i := 2) dL_law_937 rfl rfl) ?_
    refine Seg.step (pc' := 939) (I_aload_s (i := 0) dL_law_938 rfl rfl) ?_
    refine Seg.step (pc' := 941) (I_iload dL_law_939 rfl) ?_
    refine Seg.step (pc' := 942) (I_iconst dL_law_941 ⟨by decide, by decide⟩) ?_
    refine Seg.step (pc' := 943) (I_iadd dL_law_942) ?_
    refine S_gd fun h155 => ?_
    refine Seg.step (pc' := 944) (I_sld h155 dL_law_943) ?_
    refine Seg.step (pc' := 945) (I_aload_s (i := 0) dL_law_944 rfl rfl) ?_
    refine Seg.step (pc' := 947) (I_iload dL_law_945 rfl) ?_
    refine Seg.step (pc' := 948) (I_iconst dL_law_947 ⟨by decide, by decide⟩) ?_
    refine Seg.step (pc' := 949) (I_iadd dL_law_948) ?_
    refine S_gd fun h156 => ?_
    refine Seg.step (pc' := 950) (I_sld h156 dL_law_949) ?_
    refine S_callV2 (md' := m_X12_cheap) (fun y => some (iV y.1)) (fun y => (sh, false, R, y.2)) (hE _ _ sk_12) ⟨by decide, rfl⟩ mm_X12_cheap wm_L_106 ⟨rfl, rfl, by decide, by decide, by first | (show 140 + 2 * (min (x1.1.toNat / 6) 512) + 0 ≤ 1166; omega) | (show 140 + 2 * (min (x1.1.toNat / 6) 512) + 2 ≤ 1166; omega), by first | (show 4222 + 16 * (min (x1.1.toNat / 6) 512) + 0 ≤ 12426; omega) | (show 4222 + 16 * (min (x1.1.toNat / 6) 512) + 16 ≤ 12426; omega)⟩ (Nat.le_of_ble_eq_true rfl) dL_law_950 (fun y hy => c_X12_cheap hE hL y hy) (fun x157 => ?_)
    refine S_icmp_eq (tgt := 1743) dL_law_953 (by decide) (fun h158 => ?_) (fun h158 => ?_)
    · refine Seg.step (pc' := 1746) (I_iinc dL_law_1743 rfl (by decide) rfl) ?_
      refine Seg.step (pc' := 23) (I_goto (tgt := 23) dL_law_1746 (by decide)) ?_
      exact S_arr (fun K hK => GG.widen (by first | (show 140 + 2 * (min (x1.1.toNat / 6) 512) + 0 ≤ 140 + 2 * (min ((w32 (x1.1 + 6)).toNat / 6) 512); unfold w32 at *; omega) | (show 140 + 2 * (min (x1.1.toNat / 6) 512) + 2 ≤ 140 + 2 * (min ((w32 (x1.1 + 6)).toNat / 6) 512); unfold w32 at *; omega)) (by first | (show 4222 + 16 * (min (x1.1.toNat / 6) 512) + 0 ≤ 4222 + 16 * (min ((w32 (x1.1 + 6)).toNat / 6) 512); unfold w32 at *; omega) | (show 4222 + 16 * (min (x1.1.toNat / 6) 512) + 16 ≤ 4222 + 16 * (min ((w32 (x1.1 + 6)).toNat / 6) 512); unfold w32 at *; omega)) (GG.forget (Lle.ye (Lle.ye (Lle.ye (Lle.ye (Lle.ye (Lle.no (Lle.no (Lle.nil)))))))) hK))
    refine Seg.step (pc' := 957) (I_iconst dL_law_956 ⟨by decide, by decide⟩) ?_
    exact S_zret dL_law_957 rfl (by decide) (by first | (show 140 + 2 * (min (x1.1.toNat / 6) 512) + 0 ≤ 1166; omega) | (show 140 + 2 * (min (x1.1.toNat / 6) 512) + 2 ≤ 1166; omega)) (by first | (show 4222 + 16 * (min (x1.1.toNat / 6) 512) + 0 ≤ 12426; omega) | (show 4222 + 16 * (min (x1.1.toNat / 6) 512) + 16 ≤ 12426; omega)) (fun K hK => hK)
  refine S_ite (fun h159 => ?_) (fun h159 => ?_)
  · refine Seg.step (I_tsw (v := 18) (off := 918) (tgt := 958) dL_law_40 h159 (by decide) rfl (by decide)) ?_
    refine Seg.step (pc' := 959) (I_aload_n (i := 1) dL_law_958 rfl rfl) ?_
    refine Seg.step (pc' := 960) (I_aload_s (i := 0) dL_law_959 rfl rfl) ?_
    refine Seg.step (pc' := 962) (I_iload dL_law_960 rfl) ?_
    refine Seg.step (pc' := 963) (I_iconst dL_law_962 ⟨by decide, by decide⟩) ?_
    refine Seg.step (pc' := 964) (I_iadd dL_law_963) ?_
    refine S_gd fun h160 => ?_
    refine Seg.step (pc' := 965) (I_sld h160 dL_law_964) ?_
    refine S_callV1 (md' := m_X11_hears) (fun y => some (iV y.1)) (fun y => (sh, false, R, y.2)) (hE _ _ sk_11) ⟨by decide, rfl⟩ mm_X11_hears wm_L_107 ⟨rfl, rfl, by decide, by decide, by first | (show 140 + 2 * (min (x1.1.toNat / 6) 512) + 0 ≤ 1166; omega) | (show 140 + 2 * (min (x1.1.toNat / 6) 512) + 2 ≤ 1166; omega), by first | (show 4222 + 16 * (min (x1.1.toNat / 6) 512) + 0 ≤ 12426; omega) | (show 4222 + 16 * (min (x1.1.toNat / 6) 512) + 16 ≤ 12426; omega)⟩ (Nat.le_of_ble_eq_true rfl) dL_law_965 (fun y hy => c_X11_hears hE hL y hy) (fun x161 => ?_)
    refine Seg.step (pc' := 969) (I_aload_n (i := 2) dL_law_968 rfl rfl) ?_
    refine Seg.step (pc' := 970) (I_aload_s (i := 0) dL_law_969 rfl rfl) ?_
    refine Seg.step (pc' := 972) (I_iload dL_law_970 rfl) ?_
    refine Seg.step (pc' := 973) (I_iconst dL_law_972 ⟨by decide, by decide⟩) ?_
    refine Seg.step (pc' := 974) (I_iadd dL_law_973) ?_
    refine S_gd fun h162 => ?_
    refine Seg.step (pc' := 975) (I_sld h162 dL_law_974) ?_
    refine S_callV1 (md' := m_X12_hears) (fun y => some (iV y.1)) (fun y => (sh, false, R, y.2)) (hE _ _ sk_12) ⟨by decide, rfl⟩ mm_X12_hears wm_L_110 ⟨rfl, rfl, by decide, by decide, by first | (show 140 + 2 * (min (x1.1.toNat / 6) 512) + 0 ≤ 1166; omega) | (show 140 + 2 * (min (x1.1.toNat / 6) 512) + 2 ≤ 1166; omega), by first | (show 4222 + 16 * (min (x1.1.toNat / 6) 512) + 0 ≤ 12426; omega) | (show 4222 + 16 * (min (x1.1.toNat / 6) 512) + 16 ≤ 12426; omega)⟩ (Nat.le_of_ble_eq_true rfl) dL_law_975 (fun y hy => c_X12_hears hE hL y hy) (fun x163 => ?_)
    refine S_icmp_eq (tgt := 1743) dL_law_978 (by decide) (fun h164 => ?_) (fun h164 => ?_)
    · refine Seg.step (pc' := 1746) (I_iinc dL_law_1743 rfl (by decide) rfl) ?_
      refine Seg.step (pc' := 23) (I_goto (tgt := 23) dL_law_1746 (by decide)) ?_
      exact S_arr (fun K hK => GG.widen (by first | (show 140 + 2 * (min (x1.1.toNat / 6) 512) + 0 ≤ 140 + 2 * (min ((w32 (x1.1 + 6)).toNat / 6) 512); unfold w32 at *; omega) | (show 140 + 2 * (min (x1.1.toNat / 6) 512) + 2 ≤ 140 + 2 * (min ((w32 (x1.1 + 6)).toNat / 6) 512); unfold w32 at *; omega)) (by first | (show 4222 + 16 * (min (x1.1.toNat / 6) 512) + 0 ≤ 4222 + 16 * (min ((w32 (x1.1 + 6)).toNat / 6) 512); unfold w32 at *; omega) | (show 4222 + 16 * (min (x1.1.toNat / 6) 512) + 16 ≤ 4222 + 16 * (min ((w32 (x1.1 + 6)).toNat / 6) 512); unfold w32 at *; omega)) (GG.forget (Lle.ye (Lle.ye (Lle.ye (Lle.ye (Lle.ye (Lle.no (Lle.no (Lle.nil)))))))) hK))
    refine Seg.step (pc' := 982) (I_iconst dL_law_981 ⟨by decide, by decide⟩) ?_
    exact S_zret dL_law_982 rfl (by decide) (by first | (show 140 + 2 * (min (x1.1.toNat / 6) 512) + 0 ≤ 1166; omega) | (show 140 + 2 * (min (x1.1.toNat / 6) 512) + 2 ≤ 1166; omega)) (by first | (show 4222 + 16 * (min (x1.1.toNat / 6) 512) + 0 ≤ 12426; omega) | (show 4222 + 16 * (min (x1.1.toNat / 6) 512) + 16 ≤ 12426; omega)) (fun K hK => hK)
  refine S_ite (fun h165 => ?_) (fun h165 => ?_)
  · refine Seg.step (I_tsw (v := 19) (off := 943) (tgt := 983) dL_law_40 h165 (by decide) rfl (by decide)) ?_
    refine Seg.step (pc' := 984) (I_aload_n (i := 1) dL_law_983 rfl rfl) ?_
    refine Seg.step (pc' := 985) (I_aload_s (i := 0) dL_law_984 rfl rfl) ?_
    refine Seg.step (pc' := 987) (I_iload dL_law_985 rfl) ?_
    refine Seg.step (pc' := 988) (I_iconst dL_law_987 ⟨by decide, by decide⟩) ?_
    refine Seg.step (pc' := 989) (I_iadd dL_law_988) ?_
    refine S_gd fun h166 => ?_
    refine Seg.step (pc' := 990) (I_sld h166 dL_law_989) ?_
    refine Seg.step (pc' := 991) (I_aload_s (i := 0) dL_law_990 rfl rfl) ?_
    refine Seg.step (pc' := 993) (I_iload dL_law_991 rfl) ?_
    refine Seg.step (pc' := 994) (I_iconst dL_law_993 ⟨by decide, by decide⟩) ?_
    refine Seg.step (pc' := 995) (I_iadd dL_law_994) ?_
    refine S_gd fun h167 => ?_
    refine Seg.step (pc' := 996) (I_sld h167 dL_law_995) ?_
    refine Seg.step (pc' := 997) (I_aload_s (i := 0) dL_law_996 rfl rfl) ?_
    refine Seg.step (pc' := 999) (I_iload dL_law_997 rfl) ?_
    refine Seg.step (pc' := 1000) (I_iconst dL_law_999 ⟨by decide, by decide⟩) ?_
    refine Seg.step (pc' := 1001) (I_iadd dL_law_1000) ?_
    refine S_gd fun h168 => ?_
    refine Seg.step (pc' := 1002) (I_sld h168 dL_law_1001) ?_
    refine S_callV3 (md' := m_X11_onAgain) (fun y => some (iV y.1)) (fun y => (sh, false, R, y.2)) (hE _ _ sk_11) ⟨by decide, rfl⟩ mm_X11_onAgain wm_L_111 ⟨rfl, rfl, by decide, by decide, by first | (show 140 + 2 * (min (x1.1.toNat / 6) 512) + 0 ≤ 1166; omega) | (show 140 + 2 * (min (x1.1.toNat / 6) 512) + 2 ≤ 1166; omega), by first | (show 4222 + 16 * (min (x1.1.toNat / 6) 512) + 0 ≤ 12426; omega) | (show 4222 + 16 * (min (x1.1.toNat / 6) 512) + 16 ≤ 12426; omega)⟩ (Nat.le_of_ble_eq_true rfl) dL_law_1002 (fun y hy => c_X11_onAgain hE hL y hy) (fun x169 => ?_)
    refine Seg.step (pc' := 1006) (I_aload_n (i := 2) dL_law_1005 rfl rfl) ?_
    refine Seg.step (pc' := 1007) (I_aload_s (i := 0) dL_law_1006 rfl rfl) ?_
    refine Seg.step (pc' := 1009) (I_iload dL_law_1007 rfl) ?_
    refine Seg.step (pc' := 1010) (I_iconst dL_law_1009 ⟨by decide, by decide⟩) ?_
    refine Seg.step (pc' := 1011) (I_iadd dL_law_1010) ?_
    refine S_gd fun h170 => ?_
    refine Seg.step (pc' := 1012) (I_sld h170 dL_law_1011) ?_
    refine Seg.step (pc' := 1013) (I_aload_s (i := 0) dL_law_1012 rfl rfl) ?_
    refine Seg.step (pc' := 1015) (I_iload dL_law_1013 rfl) ?_
    refine Seg.step (pc' := 1016) (I_iconst dL_law_1015 ⟨by decide, by decide⟩) ?_
    refine Seg.step (pc' := 1017) (I_iadd dL_law_1016) ?_
    refine S_gd fun h171 => ?_
    refine Seg.step (pc' := 1018) (I_sld h171 dL_law_1017) ?_
    refine Seg.step (pc' := 1019) (I_aload_s (i := 0) dL_law_1018 rfl rfl) ?_
    refine Seg.step (pc' := 1021) (I_iload dL_law_1019 rfl) ?_
    refine Seg.step (pc' := 1022) (I_iconst dL_law_1021 ⟨by decide, by decide⟩) ?_
    refine Seg.step (pc' := 1023) (I_iadd dL_law_1022) ?_
    refine S_gd fun h172 => ?_
    refine Seg.step (pc' := 1024) (I_sld h172 dL_law_1023) ?_
    refine S_callV3 (md' := m_X12_onAgain) (fun y => some (iV y.1)) (fun y => (sh, false, R, y.2)) (hE _ _ sk_12) ⟨by decide, rfl⟩ mm_X12_onAgain wm_L_114 ⟨rfl, rfl, by decide, by decide, by first | (show 140 + 2 * (min (x1.1.toNat / 6) 512) + 0 ≤ 1166; omega) | (show 140 + 2 * (min (x1.1.toNat / 6) 512) + 2 ≤ 1166; omega), by first | (show 4222 + 16 * (min (x1.1.toNat / 6) 512) + 0 ≤ 12426; omega) | (show 4222 + 16 * (min (x1.1.toNat / 6) 512) + 16 ≤ 12426; omega)⟩ (Nat.le_of_ble_eq_true rfl) dL_law_1024 (fun y hy => c_X12_onAgain hE hL y hy) (fun x173 => ?_)
    refine S_icmp_eq (tgt := 1743) dL_law_1027 (by decide) (fun h174 => ?_) (fun h174 => ?_)
    · refine Seg.step (pc' := 1746) (I_iinc dL_law_1743 rfl (by decide) rfl) ?_
      refine Seg.step (pc' := 23) (I_goto (tgt := 23) dL_law_1746 (by decide)) ?_
      exact S_arr (fun K hK => GG.widen (by first | (show 140 + 2 * (min (x1.1.toNat / 6) 512) + 0 ≤ 140 + 2 * (min ((w32 (x1.1 + 6)).toNat / 6) 512); unfold w32 at *; omega) | (show 140 + 2 * (min (x1.1.toNat / 6) 512) + 2 ≤ 140 + 2 * (min ((w32 (x1.1 + 6)).toNat / 6) 512); unfold w32 at *; omega)) (by first | (show 4222 + 16 * (min (x1.1.toNat / 6) 512) + 0 ≤ 4222 + 16 * (min ((w32 (x1.1 + 6)).toNat / 6) 512); unfold w32 at *; omega) | (show 4222 + 16 * (min (x1.1.toNat / 6) 512) + 16 ≤ 4222 + 16 * (min ((w32 (x1.1 + 6)).toNat / 6) 512); unfold w32 at *; omega)) (GG.forget (Lle.ye (Lle.ye (Lle.ye (Lle.ye (Lle.ye (Lle.no (Lle.no (Lle.nil)))))))) hK))
    refine Seg.step (pc' := 1031) (I_iconst dL_law_1030 ⟨by decide, by decide⟩) ?_
    exact S_zret dL_law_1031 rfl (by decide) (by first | (show 140 + 2 * (min (x1.1.toNat / 6) 512) + 0 ≤ 1166; omega) | (show 140 + 2 * (min (x1.1.toNat / 6) 512) + 2 ≤ 1166; omega)) (by first | (show 4222 + 16 * (min (x1.1.toNat / 6) 512) + 0 ≤ 12426; omega) | (show 4222 + 16 * (min (x1.1.toNat / 6) 512) + 16 ≤ 12426; omega)) (fun K hK => hK)
  refine S_ite (fun h175 => ?_) (fun h175 => ?_)
  · refine Seg.step (I_tsw (v := 20) (off := 992) (tgt := 1032) dL_law_40 h175 (by decide) rfl (by decide)) ?_
    refine Seg.step (pc' := 1033) (I_aload_n (i := 1) dL_law_1032 rfl rfl) ?_
    refine Seg.step (pc' := 1034) (I_aload_s (i := 0) dL_law_1033 rfl rfl) ?_
    refine Seg.step (pc' := 1036) (I_iload dL_law_1034 rfl) ?_
    refine Seg.step (pc' := 1037) (I_iconst dL_law_1036 ⟨by decide, by decide⟩) ?_
    refine Seg.step (pc' := 1038) (I_iadd dL_law_1037) ?_
    refine S_gd fun h176 => ?_
    refine Seg.step (pc' := 1039) (I_sld h176 dL_law_1038) ?_
    refine S_callV1 (md' := m_X11_night) (fun y => some (iV y.1)) (fun y => (sh, false, R, y.2)) (hE _ _ sk_11) ⟨by decide, rfl⟩ mm_X11_night wm_L_115 ⟨rfl, rfl, by decide, by decide, by first | (show 140 + 2 * (min (x1.1.toNat / 6) 512) + 0 ≤ 1166; omega) | (show 140 + 2 * (min (x1.1.toNat / 6) 512) + 2 ≤ 1166; omega), by first | (show 4222 + 16 * (min (x1.1.toNat / 6) 512) + 0 ≤ 12426; omega) | (show 4222 + 16 * (min (x1.1.toNat / 6) 512) + 16 ≤ 12426; omega)⟩ (Nat.le_of_ble_eq_true rfl) dL_law_1039 (fun y hy => c_X11_night hE hL y hy) (fun x177 => ?_)
    refine Seg.step (pc' := 1043) (I_aload_n (i := 2) dL_law_1042 rfl rfl) ?_
    refine Seg.step (pc' := 1044) (I_aload_s (i := 0) dL_law_1043 rfl rfl) ?_
    refine Seg.step (pc' := 1046) (I_iload dL_law_1044 rfl) ?_
    refine Seg.step (pc' := 1047) (I_iconst dL_law_1046 ⟨by decide, by decide⟩) ?_
    refine Seg.step (pc' := 1048) (I_iadd dL_law_1047) ?_
    refine S_gd fun h178 => ?_
    refine Seg.step (pc' := 1049) (I_sld h178 dL_law_1048) ?_
    refine S_callV1 (md' := m_X12_night) (fun y => some (iV y.1)) (fun y => (sh, false, R, y.2)) (hE _ _ sk_12) ⟨by decide, rfl⟩ mm_X12_night wm_L_118 ⟨rfl, rfl, by decide, by decide, by first | (show 140 + 2 * (min (x1.1.toNat / 6) 512) + 0 ≤ 1166; omega) | (show 140 + 2 * (min (x1.1.toNat / 6) 512) + 2 ≤ 1166; omega), by first | (show 4222 + 16 * (min (x1.1.toNat / 6) 512) + 0 ≤ 12426; omega) | (show 4222 + 16 * (min (x1.1.toNat / 6) 512) + 16 ≤ 12426; omega)⟩ (Nat.le_of_ble_eq_true rfl) dL_law_1049 (fun y hy => c_X12_night hE hL y hy) (fun x179 => ?_)
    refine S_icmp_eq (tgt := 1743) dL_law_1052 (by decide) (fun h180 => ?_) (fun h180 => ?_)
    · refine Seg.step (pc' := 1746) (I_iinc dL_law_1743 rfl (by decide) rfl) ?_
      refine Seg.step (pc' := 23) (I_goto (tgt := 23) dL_law_1746 (by decide)) ?_
      exact S_arr (fun K hK => GG.widen (by first | (show 140 + 2 * (min (x1.1.toNat / 6) 512) + 0 ≤ 140 + 2 * (min ((w32 (x1.1 + 6)).toNat / 6) 512); unfold w32 at *; omega) | (show 140 + 2 * (min (x1.1.toNat / 6) 512) + 2 ≤ 140 + 2 * (min ((w32 (x1.1 + 6)).toNat / 6) 512); unfold w32 at *; omega)) (by first | (show 4222 + 16 * (min (x1.1.toNat / 6) 512) + 0 ≤ 4222 + 16 * (min ((w32 (x1.1 + 6)).toNat / 6) 512); unfold w32 at *; omega) | (show 4222 + 16 * (min (x1.1.toNat / 6) 512) + 16 ≤ 4222 + 16 * (min ((w32 (x1.1 + 6)).toNat / 6) 512); unfold w32 at *; omega)) (GG.forget (Lle.ye (Lle.ye (Lle.ye (Lle.ye (Lle.ye (Lle.no (Lle.no (Lle.nil)))))))) hK))
    refine Seg.step (pc' := 1056) (I_iconst dL_law_1055 ⟨by decide, by decide⟩) ?_
    exact S_zret dL_law_1056 rfl (by decide) (by first | (show 140 + 2 * (min (x1.1.toNat / 6) 512) + 0 ≤ 1166; omega) | (show 140 + 2 * (min (x1.1.toNat / 6) 512) + 2 ≤ 1166; omega)) (by first | (show 4222 + 16 * (min (x1.1.toNat / 6) 512) + 0 ≤ 12426; omega) | (show 4222 + 16 * (min (x1.1.toNat / 6) 512) + 16 ≤ 12426; omega)) (fun K hK => hK)
  refine S_ite (fun h181 => ?_) (fun h181 => ?_)
  · refine Seg.step (I_tsw (v := 21) (off := 1017) (tgt := 1057) dL_law_40 h181 (by decide) rfl (by decide)) ?_
    refine Seg.step (pc' := 1058) (I_aload_n (i := 1) dL_law_1057 rfl rfl) ?_
    refine Seg.step (pc' := 1059) (I_aload_s (i := 0) dL_law_1058 rfl rfl) ?_
    refine Seg.step (pc' := 1061) (I_iload dL_law_1059 rfl) ?_
    refine Seg.step (pc' := 1062) (I_iconst dL_law_1061 ⟨by decide, by decide⟩) ?_
    refine Seg.step (pc' := 1063) (I_iadd dL_law_1062) ?_
    refine S_gd fun h182 => ?_
    refine Seg.step (pc' := 1064) (I_sld h182 dL_law_1063) ?_
    refine S_callV1 (md' := m_X11_swings) (fun y => some (iV y.1)) (fun y => (sh, false, R, y.2)) (hE _ _ sk_11) ⟨by decide, rfl⟩ mm_X11_swings wm_L_119 ⟨rfl, rfl, by decide, by decide, by first | (show 140 + 2 * (min (x1.1.toNat / 6) 512) + 0 ≤ 1166; omega) | (show 140 + 2 * (min (x1.1.toNat / 6) 512) + 2 ≤ 1166; omega), by first | (show 4222 + 16 * (min (x1.1.toNat / 6) 512) + 0 ≤ 12426; omega) | (show 4222 + 16 * (min (x1.1.toNat / 6) 512) + 16 ≤ 12426; omega)⟩ (Nat.le_of_ble_eq_true rfl) dL_law_1064 (fun y hy => c_X11_swings hE hL y hy) (fun x183 => ?_)
    refine Seg.step (pc' := 1068) (I_aload_n (i := 2) dL_law_1067 rfl rfl) ?_
    refine Seg.step (pc' := 1069) (I_aload_s (i := 0) dL_law_1068 rfl rfl) ?_
    refine Seg.step (pc' := 1071) (I_iload dL_law_1069 rfl) ?_
    refine Seg.step (pc' := 1072) (I_iconst dL_law_1071 ⟨by decide, by decide⟩) ?_
    refine Seg.step (pc' := 1073) (I_iadd dL_law_1072) ?_
    refine S_gd fun h184 => ?_
    refine Seg.step (pc' := 1074) (I_sld h184 dL_law_1073) ?_
    refine S_callV1 (md' := m_X12_swings) (fun y => some (iV y.1)) (fun y => (sh, false, R, y.2)) (hE _ _ sk_12) ⟨by decide, rfl⟩ mm_X12_swings wm_L_122 ⟨rfl, rfl, by decide, by decide, by first | (show 140 + 2 * (min (x1.1.toNat / 6) 512) + 0 ≤ 1166; omega) | (show 140 + 2 * (min (x1.1.toNat / 6) 512) + 2 ≤ 1166; omega), by first | (show 4222 + 16 * (min (x1.1.toNat / 6) 512) + 0 ≤ 12426; omega) | (show 4222 + 16 * (min (x1.1.toNat / 6) 512) + 16 ≤ 12426; omega)⟩ (Nat.le_of_ble_eq_true rfl) dL_law_1074 (fun y hy => c_X12_swings hE hL y hy) (fun x185 => ?_)
    refine S_icmp_eq (tgt := 1743) dL_law_1077 (by decide) (fun h186 => ?_) (fun h186 => ?_)
    · refine Seg.step (pc' := 1746) (I_iinc dL_law_1743 rfl (by decide) rfl) ?_
      refine Seg.step (pc' := 23) (I_goto (tgt := 23) dL_law_1746 (by decide)) ?_
      exact S_arr (fun K hK => GG.widen (by first | (show 140 + 2 * (min (x1.1.toNat / 6) 512) + 0 ≤ 140 + 2 * (min ((w32 (x1.1 + 6)).toNat / 6) 512); unfold w32 at *; omega) | (show 140 + 2 * (min (x1.1.toNat / 6) 512) + 2 ≤ 140 + 2 * (min ((w32 (x1.1 + 6)).toNat / 6) 512); unfold w32 at *; omega)) (by first | (show 4222 + 16 * (min (x1.1.toNat / 6) 512) + 0 ≤ 4222 + 16 * (min ((w32 (x1.1 + 6)).toNat / 6) 512); unfold w32 at *; omega) | (show 4222 + 16 * (min (x1.1.toNat / 6) 512) + 16 ≤ 4222 + 16 * (min ((w32 (x1.1 + 6)).toNat / 6) 512); unfold w32 at *; omega)) (GG.forget (Lle.ye (Lle.ye (Lle.ye (Lle.ye (Lle.ye (Lle.no (Lle.no (Lle.nil)))))))) hK))
    refine Seg.step (pc' := 1081) (I_iconst dL_law_1080 ⟨by decide, by decide⟩) ?_
    exact S_zret dL_law_1081 rfl (by decide) (by first | (show 140 + 2 * (min (x1.1.toNat / 6) 512) + 0 ≤ 1166; omega) | (show 140 + 2 * (min (x1.1.toNat / 6) 512) + 2 ≤ 1166; omega)) (by first | (show 4222 + 16 * (min (x1.1.toNat / 6) 512) + 0 ≤ 12426; omega) | (show 4222 + 16 * (min (x1.1.toNat / 6) 512) + 16 ≤ 12426; omega)) (fun K hK => hK)
  refine S_ite (fun h187 => ?_) (fun h187 => ?_)
  · refine Seg.step (I_tsw (v := 22) (off := 1042) (tgt := 1082) dL_law_40 h187 (by decide) rfl (by decide)) ?_
    refine Seg.step (pc' := 1083) (I_aload_n (i := 1) dL_law_1082 rfl rfl) ?_
    refine Seg.step (pc' := 1084) (I_aload_s (i := 0) dL_law_1083 rfl rfl) ?_
    refine Seg.step (pc' := 1086) (I_iload dL_law_1084 rfl) ?_
    refine Seg.step (pc' := 1087) (I_iconst dL_law_1086 ⟨by decide, by decide⟩) ?_
    refine Seg.step (pc' := 1088) (I_iadd dL_law_1087) ?_
    refine S_gd fun h188 => ?_
    refine Seg.step (pc' := 1089) (I_sld h188 dL_law_1088) ?_
    refine S_callV1 (md' := m_X11_degree) (fun y => some (iV y.1)) (fun y => (sh, false, R, y.2)) (hE _ _ sk_11) ⟨by decide, rfl⟩ mm_X11_degree wm_L_123 ⟨rfl, rfl, by decide, by decide, by first | (show 140 + 2 * (min (x1.1.toNat / 6) 512) + 0 ≤ 1166; omega) | (show 140 + 2 * (min (x1.1.toNat / 6) 512) + 2 ≤ 1166; omega), by first | (show 4222 + 16 * (min (x1.1.toNat / 6) 512) + 0 ≤ 12426; omega) | (show 4222 + 16 * (min (x1.1.toNat / 6) 512) + 16 ≤ 12426; omega)⟩ (Nat.le_of_ble_eq_true rfl) dL_law_1089 (fun y hy => c_X11_degree hE hL y hy) (fun x189 => ?_)
    refine Seg.step (pc' := 1093) (I_aload_n (i := 2) dL_law_1092 rfl rfl) ?_
    refine Seg.step (pc' := 1094) (I_aload_s (i := 0) dL_law_1093 rfl rfl) ?_
    refine Seg.step (pc' := 1096) (I_iload dL_law_1094 rfl) ?_
    refine Seg.step (pc' := 1097) (I_iconst dL_law_1096 ⟨by decide, by decide⟩) ?_
    refine Seg.step (pc' := 1098) (I_iadd dL_law_1097) ?_
    refine S_gd fun h190 => ?_
    refine Seg.step (pc' := 1099) (I_sld h190 dL_law_1098) ?_
    refine S_callV1 (md' := m_X12_degree) (fun y => some (iV y.1)) (fun y => (sh, false, R, y.2)) (hE _ _ sk_12) ⟨by decide, rfl⟩ mm_X12_degree wm_L_126 ⟨rfl, rfl, by decide, by decide, by first | (show 140 + 2 * (min (x1.1.toNat / 6) 512) + 0 ≤ 1166; omega) | (show 140 + 2 * (min (x1.1.toNat / 6) 512) + 2 ≤ 1166; omega), by first | (show 4222 + 16 * (min (x1.1.toNat / 6) 512) + 0 ≤ 12426; omega) | (show 4222 + 16 * (min (x1.1.toNat / 6) 512) + 16 ≤ 12426; omega)⟩ (Nat.le_of_ble_eq_true rfl) dL_law_1099 (fun y hy => c_X12_degree hE hL y hy) (fun x191 => ?_)
    refine S_icmp_eq (tgt := 1743) dL_law_1102 (by decide) (fun h192 => ?_) (fun h192 => ?_)
    · refine Seg.step (pc' := 1746) (I_iinc dL_law_1743 rfl (by decide) rfl) ?_
      refine Seg.step (pc' := 23) (I_goto (tgt := 23) dL_law_1746 (by decide)) ?_
      exact S_arr (fun K hK => GG.widen (by first | (show 140 + 2 * (min (x1.1.toNat / 6) 512) + 0 ≤ 140 + 2 * (min ((w32 (x1.1 + 6)).toNat / 6) 512); unfold w32 at *; omega) | (show 140 + 2 * (min (x1.1.toNat / 6) 512) + 2 ≤ 140 + 2 * (min ((w32 (x1.1 + 6)).toNat / 6) 512); unfold w32 at *; omega)) (by first | (show 4222 + 16 * (min (x1.1.toNat / 6) 512) + 0 ≤ 4222 + 16 * (min ((w32 (x1.1 + 6)).toNat / 6) 512); unfold w32 at *; omega) | (show 4222 + 16 * (min (x1.1.toNat / 6) 512) + 16 ≤ 4222 + 16 * (min ((w32 (x1.1 + 6)).toNat / 6) 512); unfold w32 at *; omega)) (GG.forget (Lle.ye (Lle.ye (Lle.ye (Lle.ye (Lle.ye (Lle.no (Lle.no (Lle.nil)))))))) hK))
    refine Seg.step (pc' := 1106) (I_iconst dL_law_1105 ⟨by decide, by decide⟩) ?_
    exact S_zret dL_law_1106 rfl (by decide) (by first | (show 140 + 2 * (min (x1.1.toNat / 6) 512) + 0 ≤ 1166; omega) | (show 140 + 2 * (min (x1.1.toNat / 6) 512) + 2 ≤ 1166; omega)) (by first | (show 4222 + 16 * (min (x1.1.toNat / 6) 512) + 0 ≤ 12426; omega) | (show 4222 + 16 * (min (x1.1.toNat / 6) 512) + 16 ≤ 12426; omega)) (fun K hK => hK)
  refine S_ite (fun h193 => ?_) (fun h193 => ?_)
  · refine Seg.step (I_tsw (v := 23) (off := 1067) (tgt := 1107) dL_law_40 h193 (by decide) rfl (by decide)) ?_
    refine Seg.step (pc' := 1108) (I_aload_n (i := 1) dL_law_1107 rfl rfl) ?_
    refine Seg.step (pc' := 1109) (I_aload_s (i := 0) dL_law_1108 rfl rfl) ?_
    refine Seg.step (pc' := 1111) (I_iload dL_law_1109 rfl) ?_
    refine Seg.step (pc' := 1112) (I_iconst dL_law_1111 ⟨by decide, by decide⟩) ?_
    refine Seg.step (pc' := 1113) (I_iadd dL_law_1112) ?_
    refine S_gd fun h194 => ?_
    refine Seg.step (pc' := 1114) (I_sld h194 dL_law_1113) ?_
    refine S_callV1 (md' := m_X11_learn) (fun y => some (iV y)) (fun y => (sh, false, R, x1.2)) (hE _ _ sk_11) ⟨by decide, rfl⟩ mm_X11_learn wm_L_127 ⟨rfl, rfl, by decide, by decide, by first | (show 140 + 2 * (min (x1.1.toNat / 6) 512) + 0 ≤ 1166; omega) | (show 140 + 2 * (min (x1.1.toNat / 6) 512) + 2 ≤ 1166; omega), by first | (show 4222 + 16 * (min (x1.1.toNat / 6) 512) + 0 ≤ 12426; omega) | (show 4222 + 16 * (min (x1.1.toNat / 6) 512) + 16 ≤ 12426; omega)⟩ (Nat.le_of_ble_eq_true rfl) dL_law_1114 (fun y hy => c_X11_learn hE hL y hy) (fun x195 => ?_)
    refine Seg.step (pc' := 1118) (I_aload_n (i := 2) dL_law_1117 rfl rfl) ?_
    refine Seg.step (pc' := 1119) (I_aload_s (i := 0) dL_law_1118 rfl rfl) ?_
    refine Seg.step (pc' := 1121) (I_iload dL_law_1119 rfl) ?_
    refine Seg.step (pc' := 1122) (I_iconst dL_law_1121 ⟨by decide, by decide⟩) ?_
    refine Seg.step (pc' := 1123) (I_iadd dL_law_1122) ?_
    refine S_gd fun h196 => ?_
    refine Seg.step (pc' := 1124) (I_sld h196 dL_law_1123) ?_
    refine S_callV1 (md' := m_X12_learn) (fun y => some (iV y.1)) (fun y => (sh, false, R, y.2)) (hE _ _ sk_12) ⟨by decide, rfl⟩ mm_X12_learn wm_L_130 ⟨rfl, rfl, by decide, by decide, by first | (show 140 + 2 * (min (x1.1.toNat / 6) 512) + 0 ≤ 1166; omega) | (show 140 + 2 * (min (x1.1.toNat / 6) 512) + 2 ≤ 1166; omega), by first | (show 4222 + 16 * (min (x1.1.toNat / 6) 512) + 0 ≤ 12426; omega) | (show 4222 + 16 * (min (x1.1.toNat / 6) 512) + 16 ≤ 12426; omega)⟩ (Nat.le_of_ble_eq_true rfl) dL_law_1124 (fun y hy => c_X12_learn hE hL y hy) (fun x197 => ?_)
    refine S_icmp_eq (tgt := 1743) dL_law_1127 (by decide) (fun h198 => ?_) (fun h198 => ?_)
    · refine Seg.step (pc' := 1746) (I_iinc dL_law_1743 rfl (by decide) rfl) ?_
      refine Seg.step (pc' := 23) (I_goto (tgt := 23) dL_law_1746 (by decide)) ?_
      exact S_arr (fun K hK => GG.widen (by first | (show 140 + 2 * (min (x1.1.toNat / 6) 512) + 0 ≤ 140 + 2 * (min ((w32 (x1.1 + 6)).toNat / 6) 512); unfold w32 at *; omega) | (show 140 + 2 * (min (x1.1.toNat / 6) 512) + 2 ≤ 140 + 2 * (min ((w32 (x1.1 + 6)).toNat / 6) 512); unfold w32 at *; omega)) (by first | (show 4222 + 16 * (min (x1.1.toNat / 6) 512) + 0 ≤ 4222 + 16 * (min ((w32 (x1.1 + 6)).toNat / 6) 512); unfold w32 at *; omega) | (show 4222 + 16 * (min (x1.1.toNat / 6) 512) + 16 ≤ 4222 + 16 * (min ((w32 (x1.1 + 6)).toNat / 6) 512); unfold w32 at *; omega)) (GG.forget (Lle.ye (Lle.ye (Lle.ye (Lle.ye (Lle.ye (Lle.no (Lle.no (Lle.nil)))))))) hK))
    refine Seg.step (pc' := 1131) (I_iconst dL_law_1130 ⟨by decide, by decide⟩) ?_
    exact S_zret dL_law_1131 rfl (by decide) (by first | (show 140 + 2 * (min (x1.1.toNat / 6) 512) + 0 ≤ 1166; omega) | (show 140 + 2 * (min (x1.1.toNat / 6) 512) + 2 ≤ 1166; omega)) (by first | (show 4222 + 16 * (min (x1.1.toNat / 6) 512) + 0 ≤ 12426; omega) | (show 4222 + 16 * (min (x1.1.toNat / 6) 512) + 16 ≤ 12426; omega)) (fun K hK => hK)
  refine S_ite (fun h199 => ?_) (fun h199 => ?_)
  · refine Seg.step (I_tsw (v := 24) (off := 1092) (tgt := 1132) dL_law_40 h199 (by decide) rfl (by decide)) ?_
    refine Seg.step (pc' := 1133) (I_aload_n (i := 1) dL_law_1132 rfl rfl) ?_
    refine Seg.step (pc' := 1134) (I_aload_s (i := 0) dL_law_1133 rfl rfl) ?_
    refine Seg.step (pc' := 1136) (I_iload dL_law_1134 rfl) ?_
    refine Seg.step (pc' := 1137) (I_iconst dL_law_1136 ⟨by decide, by decide⟩) ?_
    refine Seg.step (pc' := 1138) (I_iadd dL_law_1137) ?_
    refine S_gd fun h200 => ?_
    refine Seg.step (pc' := 1139) (I_sld h200 dL_law_1138) ?_
    refine Seg.step (pc' := 1140) (I_aload_s (i := 0) dL_law_1139 rfl rfl) ?_
    refine Seg.step (pc' := 1142) (I_iload dL_law_1140 rfl) ?_
    refine Seg.step (pc' := 1143) (I_iconst dL_law_1142 ⟨by decide, by decide⟩) ?_
    refine Seg.step (pc' := 1144) (I_iadd dL_law_1143) ?_
    refine S_gd fun h201 => ?_
    refine Seg.step (pc' := 1145) (I_sld h201 dL_law_1144) ?_
    refine S_callV2 (md' := m_X11_rests) (fun y => some (iV y)) (fun y => (sh, false, R, x1.2)) (hE _ _ sk_11) ⟨by decide, rfl⟩ mm_X11_rests wm_L_131 ⟨rfl, rfl, by decide, by decide, by first | (show 140 + 2 * (min (x1.1.toNat / 6) 512) + 0 ≤ 1166; omega) | (show 140 + 2 * (min (x1.1.toNat / 6) 512) + 2 ≤ 1166; omega), by first | (show 4222 + 16 * (min (x1.1.toNat / 6) 512) + 0 ≤ 12426; omega) | (show 4222 + 16 * (min (x1.1.toNat / 6) 512) + 16 ≤ 12426; omega)⟩ (Nat.le_of_ble_eq_true rfl) dL_law_1145 (fun y hy => c_X11_rests hE hL y hy) (fun x202 => ?_)
    refine Seg.step (pc' := 1149) (I_aload_n (i := 2) dL_law_1148 rfl rfl) ?_
    refine Seg.step (pc' := 1150) (I_aload_s (i := 0) dL_law_1149 rfl rfl) ?_
    refine Seg.step (pc' := 1152) (I_iload dL_law_1150 rfl) ?_
    refine Seg.step (pc' := 1153) (I_iconst dL_law_1152 ⟨by decide, by decide⟩) ?_
    refine Seg.step (pc' := 1154) (I_iadd dL_law_1153) ?_
    refine S_gd fun h203 => ?_
    refine Seg.step (pc' := 1155) (I_sld h203 dL_law_1154) ?_
    refine Seg.step (pc' := 1156) (I_aload_s (i := 0) dL_law_1155 rfl rfl) ?_
    refine Seg.step (pc' := 1158) (I_iload dL_law_1156 rfl) ?_
    refine Seg.step (pc' := 1159) (I_iconst dL_law_1158 ⟨by decide, by decide⟩) ?_
    refine Seg.step (pc' := 1160) (I_iadd dL_law_1159) ?_
    refine S_gd fun h204 => ?_
    refine Seg.step (pc' := 1161) (I_sld h204 dL_law_1160) ?_
    refine S_callV2 (md' := m_X12_rests) (fun y => some (iV y.1)) (fun y => (sh, false, R, y.2)) (hE _ _ sk_12) ⟨by decide, rfl⟩ mm_X12_rests wm_L_134 ⟨rfl, rfl, by decide, by decide, by first | (show 140 + 2 * (min (x1.1.toNat / 6) 512) + 0 ≤ 1166; omega) | (show 140 + 2 * (min (x1.1.toNat / 6) 512) + 2 ≤ 1166; omega), by first | (show 4222 + 16 * (min (x1.1.toNat / 6) 512) + 0 ≤ 12426; omega) | (show 4222 + 16 * (min (x1.1.toNat / 6) 512) + 16 ≤ 12426; omega)⟩ (Nat.le_of_ble_eq_true rfl) dL_law_1161 (fun y hy => c_X12_rests hE hL y hy) (fun x205 => ?_)
    refine S_icmp_eq (tgt := 1743) dL_law_1164 (by decide) (fun h206 => ?_) (fun h206 => ?_)
    · refine Seg.step (pc' := 1746) (I_iinc dL_law_1743 rfl (by decide) rfl) ?_
      refine Seg.step (pc' := 23) (I_goto (tgt := 23) dL_law_1746 (by decide)) ?_
      exact S_arr (fun K hK => GG.widen (by first | (show 140 + 2 * (min (x1.1.toNat / 6) 512) + 0 ≤ 140 + 2 * (min ((w32 (x1.1 + 6)).toNat / 6) 512); unfold w32 at *; omega) | (show 140 + 2 * (min (x1.1.toNat / 6) 512) + 2 ≤ 140 + 2 * (min ((w32 (x1.1 + 6)).toNat / 6) 512); unfold w32 at *; omega)) (by first | (show 4222 + 16 * (min (x1.1.toNat / 6) 512) + 0 ≤ 4222 + 16 * (min ((w32 (x1.1 + 6)).toNat / 6) 512); unfold w32 at *; omega) | (show 4222 + 16 * (min (x1.1.toNat / 6) 512) + 16 ≤ 4222 + 16 * (min ((w32 (x1.1 + 6)).toNat / 6) 512); unfold w32 at *; omega)) (GG.forget (Lle.ye (Lle.ye (Lle.ye (Lle.ye (Lle.ye (Lle.no (Lle.no (Lle.nil)))))))) hK))
    refine Seg.step (pc' := 1168) (I_iconst dL_law_1167 ⟨by decide, by decide⟩) ?_
    exact S_zret dL_law_1168 rfl (by decide) (by first | (show 140 + 2 * (min (x1.1.toNat / 6) 512) + 0 ≤ 1166; omega) | (show 140 + 2 * (min (x1.1.toNat / 6) 512) + 2 ≤ 1166; omega)) (by first | (show 4222 + 16 * (min (x1.1.toNat / 6) 512) + 0 ≤ 12426; omega) | (show 4222 + 16 * (min (x1.1.toNat / 6) 512) + 16 ≤ 12426; omega)) (fun K hK => hK)
  refine S_ite (fun h207 => ?_) (fun h207 => ?_)
  · refine Seg.step (I_tsw (v := 25) (off := 1129) (tgt := 1169) dL_law_40 h207 (by decide) rfl (by decide)) ?_
    refine Seg.step (pc' := 1170) (I_aload_n (i := 1) dL_law_1169 rfl rfl) ?_
    refine Seg.step (pc' := 1171) (I_aload_s (i := 0) dL_law_1170 rfl rfl) ?_
    refine Seg.step (pc' := 1173) (I_iload dL_law_1171 rfl) ?_
    refine Seg.step (pc' := 1174) (I_iconst dL_law_1173 ⟨by decide, by decide⟩) ?_
    refine Seg.step (pc' := 1175) (I_iadd dL_law_1174) ?_
    refine S_gd fun h208 => ?_
    refine Seg.step (pc' := 1176) (I_sld h208 dL_law_1175) ?_
    refine Seg.step (pc' := 1177) (I_aload_s (i := 0) dL_law_1176 rfl rfl) ?_
    refine Seg.step (pc' := 1179) (I_iload dL_law_1177 rfl) ?_
    refine Seg.step (pc' := 1180) (I_iconst dL_law_1179 ⟨by decide, by decide⟩) ?_
    refine Seg.step (pc' := 1181) (I_iadd dL_law_1180) ?_
    refine S_gd fun h209 => ?_
    refine Seg.step (pc' := 1182) (I_sld h209 dL_law_1181) ?_
    refine Seg.step (pc' := 1183) (I_aload_s (i := 0) dL_law_1182 rfl rfl) ?_
    refine Seg.step (pc' := 1185) (I_iload dL_law_1183 rfl) ?_
    refine Seg.step (pc' := 1186) (I_iconst dL_law_1185 ⟨by decide, by decide⟩) ?_
    refine Seg.step (pc' := 1187) (I_iadd dL_law_1186) ?_
    refine S_gd fun h210 => ?_
    refine Seg.step (pc' := 1188) (I_sld h210 dL_law_1187) ?_
    refine S_callV3 (md' := m_X11_rest) (fun y => some (iV y)) (fun y => (sh, false, R, x1.2)) (hE _ _ sk_11) ⟨by decide, rfl⟩ mm_X11_rest wm_L_135 ⟨rfl, rfl, by decide, by decide, by first | (show 140 + 2 * (min (x1.1.toNat / 6) 512) + 0 ≤ 1166; omega) | (show 140 + 2 * (min (x1.1.toNat / 6) 512) + 2 ≤ 1166; omega), by first | (show 4222 + 16 * (min (x1.1.toNat / 6) 512) + 0 ≤ 12426; omega) | (show 4222 + 16 * (min (x1.1.toNat / 6) 512) + 16 ≤ 12426; omega)⟩ (Nat.le_of_ble_eq_true rfl) dL_law_1188 (fun y hy => c_X11_rest hE hL y hy) (fun x211 => ?_)
    refine Seg.step (pc' := 1192) (I_aload_n (i := 2) dL_law_1191 rfl rfl) ?_
    refine Seg.step (pc' := 1193) (I_aload_s (i := 0) dL_law_1192 rfl rfl) ?_
    refine Seg.step (pc' := 1195) (I_iload dL_law_1193 rfl) ?_
    refine Seg.step (pc' := 1196) (I_iconst dL_law_1195 ⟨by decide, by decide⟩) ?_
    refine Seg.step (pc' := 1197) (I_iadd dL_law_1196) ?_
    refine S_gd fun h212 => ?_
    refine Seg.step (pc' := 1198) (I_sld h212 dL_law_1197) ?_
    refine Seg.step (pc' := 1199) (I_aload_s (i := 0) dL_law_1198 rfl rfl) ?_
    refine Seg.step (pc' := 1201) (I_iload dL_law_1199 rfl) ?_
    refine Seg.step (pc' := 1202) (I_iconst dL_law_1201 ⟨by decide, by decide⟩) ?_
    refine Seg.step (pc' := 1203) (I_iadd dL_law_1202) ?_
    refine S_gd fun h213 => ?_
    refine Seg.step (pc' := 1204) (I_sld h213 dL_law_1203) ?_
    refine Seg.step (pc' := 1205) (I_aload_s (i := 0) dL_law_1204 rfl rfl) ?_
    refine Seg.step (pc' := 1207) (I_iload dL_law_1205 rfl) ?_
    refine Seg.step (pc' := 1208) (I_iconst dL_law_1207 ⟨by decide, by decide⟩) ?_
    refine Seg.step (pc' := 1209) (I_iadd dL_law_1208) ?_
    refine S_gd fun h214 => ?_
    refine Seg.step (pc' := 1210) (I_sld h214 dL_law_1209) ?_
    refine S_callV3 (md' := m_X12_rest) (fun y => some (iV y.1)) (fun y => (sh, false, R, y.2)) (hE _ _ sk_12) ⟨by decide, rfl⟩ mm_X12_rest wm_L_138 ⟨rfl, rfl, by decide, by decide, by first | (show 140 + 2 * (min (x1.1.toNat / 6) 512) + 0 ≤ 1166; omega) | (show 140 + 2 * (min (x1.1.toNat / 6) 512) + 2 ≤ 1166; omega), by first | (show 4222 + 16 * (min (x1.1.toNat / 6) 512) + 0 ≤ 12426; omega) | (show 4222 + 16 * (min (x1.1.toNat / 6) 512) + 16 ≤ 12426; omega)⟩ (Nat.le_of_ble_eq_true rfl) dL_law_1210 (fun y hy => c_X12_rest hE hL y hy) (fun x215 => ?_)
    refine S_icmp_eq (tgt := 1743) dL_law_1213 (by decide) (fun h216 => ?_) (fun h216 => ?_)
    · refine Seg.step (pc' := 1746) (I_iinc dL_law_1743 rfl (by decide) rfl) ?_
      refine Seg.step (pc' := 23) (I_goto (tgt := 23) dL_law_1746 (by decide)) ?_
      exact S_arr (fun K hK => GG.widen (by first | (show 140 + 2 * (min (x1.1.toNat / 6) 512) + 0 ≤ 140 + 2 * (min ((w32 (x1.1 + 6)).toNat / 6) 512); unfold w32 at *; omega) | (show 140 + 2 * (min (x1.1.toNat / 6) 512) + 2 ≤ 140 + 2 * (min ((w32 (x1.1 + 6)).toNat / 6) 512); unfold w32 at *; omega)) (by first | (show 4222 + 16 * (min (x1.1.toNat / 6) 512) + 0 ≤ 4222 + 16 * (min ((w32 (x1.1 + 6)).toNat / 6) 512); unfold w32 at *; omega) | (show 4222 + 16 * (min (x1.1.toNat / 6) 512) + 16 ≤ 4222 + 16 * (min ((w32 (x1.1 + 6)).toNat / 6) 512); unfold w32 at *; omega)) (GG.forget (Lle.ye (Lle.ye (Lle.ye (Lle.ye (Lle.ye (Lle.no (Lle.no (Lle.nil)))))))) hK))
    refine Seg.step (pc' := 1217) (I_iconst dL_law_1216 ⟨by decide, by decide⟩) ?_
    exact S_zret dL_law_1217 rfl (by decide) (by first | (show 140 + 2 * (min (x1.1.toNat / 6) 512) + 0 ≤ 1166; omega) | (show 140 + 2 * (min (x1.1.toNat / 6) 512) + 2 ≤ 1166; omega)) (by first | (show 4222 + 16 * (min (x1.1.toNat / 6) 512) + 0 ≤ 12426; omega) | (show 4222 + 16 * (min (x1.1.toNat / 6) 512) + 16 ≤ 12426; omega)) (fun K hK => hK)
  refine S_ite (fun h217 => ?_) (fun h217 => ?_)
  · refine Seg.step (I_tsw (v := 26) (off := 1178) (tgt := 1218) dL_law_40 h217 (by decide) rfl (by decide)) ?_
    refine Seg.step (pc' := 1219) (I_aload_n (i := 1) dL_law_1218 rfl rfl) ?_
    refine Seg.step (pc' := 1220) (I_aload_s (i := 0) dL_law_1219 rfl rfl) ?_
    refine Seg.step (pc' := 1222) (I_iload dL_law_1220 rfl) ?_
    refine Seg.step (pc' := 1223) (I_iconst dL_law_1222 ⟨by decide, by decide⟩) ?_
    refine Seg.step (pc' := 1224) (I_iadd dL_law_1223) ?_
    refine S_gd fun h218 => ?_
    refine Seg.step (pc' := 1225) (I_sld h218 dL_law_1224) ?_
    refine Seg.step (pc' := 1226) (I_aload_s (i := 0) dL_law_1225 rfl rfl) ?_
    refine Seg.step (pc' := 1228) (I_iload dL_law_1226 rfl) ?_
    refine Seg.step (pc' := 1229) (I_iconst dL_law_1228 ⟨by decide, by decide⟩) ?_
    refine Seg.step (pc' := 1230) (I_iadd dL_law_1229) ?_
    refine S_gd fun h219 => ?_
    refine Seg.step (pc' := 1231) (I_sld h219 dL_law_1230) ?_
    refine S_callV2 (md' := m_X11_givesIn) (fun y => some (iV y.1)) (fun y => (sh, false, R, y.2)) (hE _ _ sk_11) ⟨by decide, rfl⟩ mm_X11_givesIn wm_L_139 ⟨rfl, rfl, by decide, by decide, by first | (show 140 + 2 * (min (x1.1.toNat / 6) 512) + 0 ≤ 1166; omega) | (show 140 + 2 * (min (x1.1.toNat / 6) 512) + 2 ≤ 1166; omega), by first | (show 4222 + 16 * (min (x1.1.toNat / 6) 512) + 0 ≤ 12426; omega) | (show 4222 + 16 * (min (x1.1.toNat / 6) 512) + 16 ≤ 12426; omega)⟩ (Nat.le_of_ble_eq_true rfl) dL_law_1231 (fun y hy => c_X11_givesIn hE hL y hy) (fun x220 => ?_)
    refine Seg.step (pc' := 1235) (I_aload_n (i := 2) dL_law_1234 rfl rfl) ?_
    refine Seg.step (pc' := 1236) (I_aload_s (i := 0) dL_law_1235 rfl rfl) ?_
    refine Seg.step (pc' := 1238) (I_iload dL_law_1236 rfl) ?_
    refine Seg.step (pc' := 1239) (I_iconst dL_law_1238 ⟨by decide, by decide⟩) ?_
    refine Seg.step (pc' := 1240) (I_iadd dL_law_1239) ?_
    refine S_gd fun h221 => ?_
    refine Seg.step (pc' := 1241) (I_sld h221 dL_law_1240) ?_
    refine Seg.step (pc' := 1242) (I_aload_s (i := 0) dL_law_1241 rfl rfl) ?_
    refine Seg.step (pc' := 1244) (I_iload dL_law_1242 rfl) ?_
    refine Seg.step (pc' := 1245) (I_iconst dL_law_1244 ⟨by decide, by decide⟩) ?_
    refine Seg.step (pc' := 1246) (I_iadd dL_law_1245) ?_
    refine S_gd fun h222 => ?_
    refine Seg.step (pc' := 1247) (I_sld h222 dL_law_1246) ?_
    refine S_callV2 (md' := m_X12_givesIn) (fun y => some (iV y.1)) (fun y => (sh, false, R, y.2)) (hE _ _ sk_12) ⟨by decide, rfl⟩ mm_X12_givesIn wm_L_142 ⟨rfl, rfl, by decide, by decide, by first | (show 140 + 2 * (min (x1.1.toNat / 6) 512) + 0 ≤ 1166; omega) | (show 140 + 2 * (min (x1.1.toNat / 6) 512) + 2 ≤ 1166; omega), by first | (show 4222 + 16 * (min (x1.1.toNat / 6) 512) + 0 ≤ 12426; omega) | (show 4222 + 16 * (min (x1.1.toNat / 6) 512) + 16 ≤ 12426; omega)⟩ (Nat.le_of_ble_eq_true rfl) dL_law_1247 (fun y hy => c_X12_givesIn hE hL y hy) (fun x223 => ?_)
    refine S_icmp_eq (tgt := 1743) dL_law_1250 (by decide) (fun h224 => ?_) (fun h224 => ?_)
    · refine Seg.step (pc' := 1746) (I_iinc dL_law_1743 rfl (by decide) rfl) ?_
      refine Seg.step (pc' := 23) (I_goto (tgt := 23) dL_law_1746 (by decide)) ?_
      exact S_arr (fun K hK => GG.widen (by first | (show 140 + 2 * (min (x1.1.toNat / 6) 512) + 0 ≤ 140 + 2 * (min ((w32 (x1.1 + 6)).toNat / 6) 512); unfold w32 at *; omega) | (show 140 + 2 * (min (x1.1.toNat / 6) 512) + 2 ≤ 140 + 2 * (min ((w32 (x1.1 + 6)).toNat / 6) 512); unfold w32 at *; omega)) (by first | (show 4222 + 16 * (min (x1.1.toNat / 6) 512) + 0 ≤ 4222 + 16 * (min ((w32 (x1.1 + 6)).toNat / 6) 512); unfold w32 at *; omega) | (show 4222 + 16 * (min (x1.1.toNat / 6) 512) + 16 ≤ 4222 + 16 * (min ((w32 (x1.1 + 6)).toNat / 6) 512); unfold w32 at *; omega)) (GG.forget (Lle.ye (Lle.ye (Lle.ye (Lle.ye (Lle.ye (Lle.no (Lle.no (Lle.nil)))))))) hK))
    refine Seg.step (pc' := 1254) (I_iconst dL_law_1253 ⟨by decide, by decide⟩) ?_
    exact S_zret dL_law_1254 rfl (by decide) (by first | (show 140 + 2 * (min (x1.1.toNat / 6) 512) + 0 ≤ 1166; omega) | (show 140 + 2 * (min (x1.1.toNat / 6) 512) + 2 ≤ 1166; omega)) (by first | (show 4222 + 16 * (min (x1.1.toNat / 6) 512) + 0 ≤ 12426; omega) | (show 4222 + 16 * (min (x1.1.toNat / 6) 512) + 16 ≤ 12426; omega)) (fun K hK => hK)
  refine S_ite (fun h225 => ?_) (fun h225 => ?_)
  · refine Seg.step (I_tsw (v := 27) (off := 1215) (tgt := 1255) dL_law_40 h225 (by decide) rfl (by decide)) ?_
    refine Seg.step (pc' := 1256) (I_aload_n (i := 1) dL_law_1255 rfl rfl) ?_
    refine S_callV0 (md' := m_X11_crossest) (fun y => some (iV y)) (fun y => (sh, false, R, x1.2)) (hE _ _ sk_11) ⟨by decide, rfl⟩ mm_X11_crossest wm_L_143 ⟨rfl, rfl, by decide, by decide, by first | (show 140 + 2 * (min (x1.1.toNat / 6) 512) + 0 ≤ 1166; omega) | (show 140 + 2 * (min (x1.1.toNat / 6) 512) + 2 ≤ 1166; omega), by first | (show 4222 + 16 * (min (x1.1.toNat / 6) 512) + 0 ≤ 12426; omega) | (show 4222 + 16 * (min (x1.1.toNat / 6) 512) + 16 ≤ 12426; omega)⟩ (Nat.le_of_ble_eq_true rfl) dL_law_1256 (fun y hy => c_X11_crossest hE hL y hy) (fun x226 => ?_)
    refine Seg.step (pc' := 1260) (I_aload_n (i := 2) dL_law_1259 rfl rfl) ?_
    refine S_callV0 (md' := m_X12_crossest) (fun y => some (iV y.1)) (fun y => (sh, false, R, y.2)) (hE _ _ sk_12) ⟨by decide, rfl⟩ mm_X12_crossest wm_L_146 ⟨rfl, rfl, by decide, by decide, by first | (show 140 + 2 * (min (x1.1.toNat / 6) 512) + 0 ≤ 1166; omega) | (show 140 + 2 * (min (x1.1.toNat / 6) 512) + 2 ≤ 1166; omega), by first | (show 4222 + 16 * (min (x1.1.toNat / 6) 512) + 0 ≤ 12426; omega) | (show 4222 + 16 * (min (x1.1.toNat / 6) 512) + 16 ≤ 12426; omega)⟩ (Nat.le_of_ble_eq_true rfl) dL_law_1260 (fun y hy => c_X12_crossest hE hL y hy) (fun x227 => ?_)
    refine S_icmp_eq (tgt := 1743) dL_law_1263 (by decide) (fun h228 => ?_) (fun h228 => ?_)
    · refine Seg.step (pc' := 1746) (I_iinc dL_law_1743 rfl (by decide) rfl) ?_
      refine Seg.step (pc' := 23) (I_goto (tgt := 23) dL_law_1746 (by decide)) ?_
      exact S_arr (fun K hK => GG.widen (by first | (show 140 + 2 * (min (x1.1.toNat / 6) 512) + 0 ≤ 140 + 2 * (min ((w32 (x1.1 + 6)).toNat / 6) 512); unfold w32 at *; omega) | (show 140 + 2 * (min (x1.1.toNat / 6) 512) + 2 ≤ 140 + 2 * (min ((w32 (x1.1 + 6)).toNat / 6) 512); unfold w32 at *; omega)) (by first | (show 4222 + 16 * (min (x1.1.toNat / 6) 512) + 0 ≤ 4222 + 16 * (min ((w32 (x1.1 + 6)).toNat / 6) 512); unfold w32 at *; omega) | (show 4222 + 16 * (min (x1.1.toNat / 6) 512) + 16 ≤ 4222 + 16 * (min ((w32 (x1.1 + 6)).toNat / 6) 512); unfold w32 at *; omega)) (GG.forget (Lle.ye (Lle.ye (Lle.ye (Lle.ye (Lle.ye (Lle.no (Lle.no (Lle.nil)))))))) hK))
    refine Seg.step (pc' := 1267) (I_iconst dL_law_1266 ⟨by decide, by decide⟩) ?_
    exact S_zret dL_law_1267 rfl (by decide) (by first | (show 140 + 2 * (min (x1.1.toNat / 6) 512) + 0 ≤ 1166; omega) | (show 140 + 2 * (min (x1.1.toNat / 6) 512) + 2 ≤ 1166; omega)) (by first | (show 4222 + 16 * (min (x1.1.toNat / 6) 512) + 0 ≤ 12426; omega) | (show 4222 + 16 * (min (x1.1.toNat / 6) 512) + 16 ≤ 12426; omega)) (fun K hK => hK)
  refine S_ite (fun h229 => ?_) (fun h229 => ?_)
  · refine Seg.step (I_tsw (v := 28) (off := 1228) (tgt := 1268) dL_law_40 h229 (by decide) rfl (by decide)) ?_
    refine Seg.step (pc' := 1269) (I_aload_n (i := 1) dL_law_1268 rfl rfl) ?_
    refine Seg.step (pc' := 1270) (I_aload_s (i := 0) dL_law_1269 rfl rfl) ?_
    refine Seg.step (pc' := 1272) (I_iload dL_law_1270 rfl) ?_
    refine Seg.step (pc' := 1273) (I_iconst dL_law_1272 ⟨by decide, by decide⟩) ?_
    refine Seg.step (pc' := 1274) (I_iadd dL_law_1273) ?_
    refine S_gd fun h230 => ?_
    refine Seg.step (pc' := 1275) (I_sld h230 dL_law_1274) ?_
    refine Seg.step (pc' := 1276) (I_aload_s (i := 0) dL_law_1275 rfl rfl) ?_
    refine Seg.step (pc' := 1278) (I_iload dL_law_1276 rfl) ?_
    refine Seg.step (pc' := 1279) (I_iconst dL_law_1278 ⟨by decide, by decide⟩) ?_
    refine Seg.step (pc' := 1280) (I_iadd dL_law_1279) ?_
    refine S_gd fun h231 => ?_
    refine Seg.step (pc' := 1281) (I_sld h231 dL_law_1280) ?_
    refine S_callV2 (md' := m_X11_turnsOf) (fun y => some (iV y.1)) (fun y => (sh, false, R, y.2)) (hE _ _ sk_11) ⟨by decide, rfl⟩ mm_X11_turnsOf wm_L_147 ⟨rfl, rfl, by decide, by decide, by first | (show 140 + 2 * (min (x1.1.toNat / 6) 512) + 0 ≤ 1166; omega) | (show 140 + 2 * (min (x1.1.toNat / 6) 512) + 2 ≤ 1166; omega), by first | (show 4222 + 16 * (min (x1.1.toNat / 6) 512) + 0 ≤ 12426; omega) | (show 4222 + 16 * (min (x1.1.toNat / 6) 512) + 16 ≤ 12426; omega)⟩ (Nat.le_of_ble_eq_true rfl) dL_law_1281 (fun y hy => c_X11_turnsOf hE hL y hy) (fun x232 => ?_)
    refine Seg.step (pc' := 1285) (I_aload_n (i := 2) dL_law_1284 rfl rfl) ?_
    refine Seg.step (pc' := 1286) (I_aload_s (i := 0) dL_law_1285 rfl rfl) ?_
    refine Seg.step (pc' := 1288) (I_iload dL_law_1286 rfl) ?_
    refine Seg.step (pc' := 1289) (I_iconst dL_law_1288 ⟨by decide, by decide⟩) ?_
    refine Seg.step (pc' := 1290) (I_iadd dL_law_1289) ?_
    refine S_gd fun h233 => ?_
    refine Seg.step (pc' := 1291) (I_sld h233 dL_law_1290) ?_
    refine Seg.step (pc' := 1292) (I_aload_s (i := 0) dL_law_1291 rfl rfl) ?_
    refine Seg.step (pc' := 1294) (I_iload dL_law_1292 rfl) ?_
    refine Seg.step (pc' := 1295) (I_iconst dL_law_1294 ⟨by decide, by decide⟩) ?_
    refine Seg.step (pc' := 1296) (I_iadd dL_law_1295) ?_
    refine S_gd fun h234 => ?_
    refine Seg.step (pc' := 1297) (I_sld h234 dL_law_1296) ?_
    refine S_callV2 (md' := m_X12_turnsOf) (fun y => some (iV y.1)) (fun y => (sh, false, R, y.2)) (hE _ _ sk_12) ⟨by decide, rfl⟩ mm_X12_turnsOf wm_L_150 ⟨rfl, rfl, by decide, by decide, by first | (show 140 + 2 * (min (x1.1.toNat / 6) 512) + 0 ≤ 1166; omega) | (show 140 + 2 * (min (x1.1.toNat / 6) 512) + 2 ≤ 1166; omega), by first | (show 4222 + 16 * (min (x1.1.toNat / 6) 512) + 0 ≤ 12426; omega) | (show 4222 + 16 * (min (x1.1.toNat / 6) 512) + 16 ≤ 12426; omega)⟩ (Nat.le_of_ble_eq_true rfl) dL_law_1297 (fun y hy => c_X12_turnsOf hE hL y hy) (fun x235 => ?_)
    refine S_icmp_eq (tgt := 1743) dL_law_1300 (by decide) (fun h236 => ?_) (fun h236 => ?_)
    · refine Seg.step (pc' := 1746) (I_iinc dL_law_1743 rfl (by decide) rfl) ?_
      refine Seg.step (pc' := 23) (I_goto (tgt := 23) dL_law_1746 (by decide)) ?_
      exact S_arr (fun K hK => GG.widen (by first | (show 140 + 2 * (min (x1.1.toNat / 6) 512) + 0 ≤ 140 + 2 * (min ((w32 (x1.1 + 6)).toNat / 6) 512); unfold w32 at *; omega) | (show 140 + 2 * (min (x1.1.toNat / 6) 512) + 2 ≤ 140 + 2 * (min ((w32 (x1.1 + 6)).toNat / 6) 512); unfold w32 at *; omega)) (by first | (show 4222 + 16 * (min (x1.1.toNat / 6) 512) + 0 ≤ 4222 + 16 * (min ((w32 (x1.1 + 6)).toNat / 6) 512); unfold w32 at *; omega) | (show 4222 + 16 * (min (x1.1.toNat / 6) 512) + 16 ≤ 4222 + 16 * (min ((w32 (x1.1 + 6)).toNat / 6) 512); unfold w32 at *; omega)) (GG.forget (Lle.ye (Lle.ye (Lle.ye (Lle.ye (Lle.ye (Lle.no (Lle.no (Lle.nil)))))))) hK))
    refine Seg.step (pc' := 1304) (I_iconst dL_law_1303 ⟨by decide, by decide⟩) ?_
    exact S_zret dL_law_1304 rfl (by decide) (by first | (show 140 + 2 * (min (x1.1.toNat / 6) 512) + 0 ≤ 1166; omega) | (show 140 + 2 * (min (x1.1.toNat / 6) 512) + 2 ≤ 1166; omega)) (by first | (show 4222 + 16 * (min (x1.1.toNat / 6) 512) + 0 ≤ 12426; omega) | (show 4222 + 16 * (min (x1.1.toNat / 6) 512) + 16 ≤ 12426; omega)) (fun K hK => hK)
  refine S_ite (fun h237 => ?_) (fun h237 => ?_)
  · refine Seg.step (I_tsw (v := 29) (off := 1265) (tgt := 1305) dL_law_40 h237 (by decide) rfl (by decide)) ?_
    refine Seg.step (pc' := 1306) (I_aload_n (i := 1) dL_law_1305 rfl rfl) ?_
    refine Seg.step (pc' := 1307) (I_aload_s (i := 0) dL_law_1306 rfl rfl) ?_
    refine Seg.step (pc' := 1309) (I_iload dL_law_1307 rfl) ?_
    refine Seg.step (pc' := 1310) (I_iconst dL_law_1309 ⟨by decide, by decide⟩) ?_
    refine Seg.step (pc' := 1311) (I_iadd dL_law_1310) ?_
    refine S_gd fun h238 => ?_
    refine Seg.step (pc' := 1312) (I_sld h238 dL_law_1311) ?_
    refine Seg.step (pc' := 1313) (I_aload_s (i := 0) dL_law_1312 rfl rfl) ?_
    refine Seg.step (pc' := 1315) (I_iload dL_law_1313 rfl) ?_
    refine Seg.step (pc' := 1316) (I_iconst dL_law_1315 ⟨by decide, by decide⟩) ?_
    refine Seg.step (pc' := 1317) (I_iadd dL_law_1316) ?_
    refine S_gd fun h239 => ?_
    refine Seg.step (pc' := 1318) (I_sld h239 dL_law_1317) ?_
    refine S_callV2 (md' := m_X11_strip) (fun y => some (iV y.1)) (fun y => (sh, false, R, y.2)) (hE _ _ sk_11) ⟨by decide, rfl⟩ mm_X11_strip wm_L_151 ⟨rfl, rfl, by decide, by decide, by first | (show 140 + 2 * (min (x1.1.toNat / 6) 512) + 0 ≤ 1166; omega) | (show 140 + 2 * (min (x1.1.toNat / 6) 512) + 2 ≤ 1166; omega), by first | (show 4222 + 16 * (min (x1.1.toNat / 6) 512) + 0 ≤ 12426; omega) | (show 4222 + 16 * (min (x1.1.toNat / 6) 512) + 16 ≤ 12426; omega)⟩ (Nat.le_of_ble_eq_true rfl) dL_law_1318 (fun y hy => c_X11_strip hE hL y hy) (fun x240 => ?_)
    refine Seg.step (pc' := 1322) (I_aload_n (i := 2) dL_law_1321 rfl rfl) ?_
    refine Seg.step (pc' := 1323) (I_aload_s (i := 0) dL_law_1322 rfl rfl) ?_
    refine Seg.step (pc' := 1325) (I_iload dL_law_1323 rfl) ?_
    refine Seg.step (pc' := 1326) (I_iconst dL_law_1325 ⟨by decide, by decide⟩) ?_
    refine Seg.step (pc' := 1327) (I_iadd dL_law_1326) ?_
    refine S_gd fun h241 => ?_
    refine Seg.step (pc' := 1328) (I_sld h241 dL_law_1327) ?_
    refine Seg.step (pc' := 1329) (I_aload_s (i := 0) dL_law_1328 rfl rfl) ?_
    refine Seg.step (pc' := 1331) (I_iload dL_law_1329 rfl) ?_
    refine Seg.step (pc' := 1332) (I_iconst dL_law_1331 ⟨by decide, by decide⟩) ?_
    refine Seg.step (pc' := 1333) (I_iadd dL_law_1332) ?_
    refine S_gd fun h242 => ?_
    refine Seg.step (pc' := 1334) (I_sld h242 dL_law_1333) ?_
    refine S_callV2 (md' := m_X12_strip) (fun y => some (iV y.1)) (fun y => (sh, false, R, y.2)) (hE _ _ sk_12) ⟨by decide, rfl⟩ mm_X12_strip wm_L_154 ⟨rfl, rfl, by decide, by decide, by first | (show 140 + 2 * (min (x1.1.toNat / 6) 512) + 0 ≤ 1166; omega) | (show 140 + 2 * (min (x1.1.toNat / 6) 512) + 2 ≤ 1166; omega), by first | (show 4222 + 16 * (min (x1.1.toNat / 6) 512) + 0 ≤ 12426; omega) | (show 4222 + 16 * (min (x1.1.toNat / 6) 512) + 16 ≤ 12426; omega)⟩ (Nat.le_of_ble_eq_true rfl) dL_law_1334 (fun y hy => c_X12_strip hE hL y hy) (fun x243 => ?_)
    refine S_icmp_eq (tgt := 1743) dL_law_1337 (by decide) (fun h244 => ?_) (fun h244 => ?_)
    · refine Seg.step (pc' := 1746) (I_iinc dL_law_1743 rfl (by decide) rfl) ?_
      refine Seg.step (pc' := 23) (I_goto (tgt := 23) dL_law_1746 (by decide)) ?_
      exact S_arr (fun K hK => GG.widen (by first | (show 140 + 2 * (min (x1.1.toNat / 6) 512) + 0 ≤ 140 + 2 * (min ((w32 (x1.1 + 6)).toNat / 6) 512); unfold w32 at *; omega) | (show 140 + 2 * (min (x1.1.toNat / 6) 512) + 2 ≤ 140 + 2 * (min ((w32 (x1.1 + 6)).toNat / 6) 512); unfold w32 at *; omega)) (by first | (show 4222 + 16 * (min (x1.1.toNat / 6) 512) + 0 ≤ 4222 + 16 * (min ((w32 (x1.1 + 6)).toNat / 6) 512); unfold w32 at *; omega) | (show 4222 + 16 * (min (x1.1.toNat / 6) 512) + 16 ≤ 4222 + 16 * (min ((w32 (x1.1 + 6)).toNat / 6) 512); unfold w32 at *; omega)) (GG.forget (Lle.ye (Lle.ye (Lle.ye (Lle.ye (Lle.ye (Lle.no (Lle.no (Lle.nil)))))))) hK))
    refine Seg.step (pc' := 1341) (I_iconst dL_law_1340 ⟨by decide, by decide⟩) ?_
    exact S_zret dL_law_1341 rfl (by decide) (by first | (show 140 + 2 * (min (x1.1.toNat / 6) 512) + 0 ≤ 1166; omega) | (show 140 + 2 * (min (x1.1.toNat / 6) 512) + 2 ≤ 1166; omega)) (by first | (show 4222 + 16 * (min (x1.1.toNat / 6) 512) + 0 ≤ 12426; omega) | (show 4222 + 16 * (min (x1.1.toNat / 6) 512) + 16 ≤ 12426; omega)) (fun K hK => hK)
  refine S_ite (fun h245 => ?_) (fun h245 => ?_)
  · refine Seg.step (I_tsw (v := 30) (off := 1302) (tgt := 1342) dL_law_40 h245 (by decide) rfl (by decide)) ?_
    refine Seg.step (pc' := 1343) (I_aload_n (i := 1) dL_law_1342 rfl rfl) ?_
    refine S_callV0 (md' := m_X11_spread) (fun y => some (iV y)) (fun y => (sh, false, R, x1.2)) (hE _ _ sk_11) ⟨by decide, rfl⟩ mm_X11_spread wm_L_155 ⟨rfl, rfl, by decide, by decide, by first | (show 140 + 2 * (min (x1.1.toNat / 6) 512) + 0 ≤ 1166; omega) | (show 140 + 2 * (min (x1.1.toNat / 6) 512) + 2 ≤ 1166; omega), by first | (show 4222 + 16 * (min (x1.1.toNat / 6) 512) + 0 ≤ 12426; omega) | (show 4222 + 16 * (min (x1.1.toNat / 6) 512) + 16 ≤ 12426; omega)⟩ (Nat.le_of_ble_eq_true rfl) dL_law_1343 (fun y hy => c_X11_spread hE hL y hy) (fun x246 => ?_)
    refine Seg.step (pc' := 1347) (I_aload_n (i := 2) dL_law_1346 rfl rfl) ?_
    refine S_callV0 (md' := m_X12_spread) (fun y => some (iV y.1)) (fun y => (sh, false, R, y.2)) (hE _ _ sk_12) ⟨by decide, rfl⟩ mm_X12_spread wm_L_158 ⟨rfl, rfl, by decide, by decide, by first | (show 140 + 2 * (min (x1.1.toNat / 6) 512) + 0 ≤ 1166; omega) | (show 140 + 2 * (min (x1.1.toNat / 6) 512) + 2 ≤ 1166; omega), by first | (show 4222 + 16 * (min (x1.1.toNat / 6) 512) + 0 ≤ 12426; omega) | (show 4222 + 16 * (min (x1.1.toNat / 6) 512) + 16 ≤ 12426; omega)⟩ (Nat.le_of_ble_eq_true rfl) dL_law_1347 (fun y hy => c_X12_spread hE hL y hy) (fun x247 => ?_)
    refine S_icmp_eq (tgt := 1743) dL_law_1350 (by decide) (fun h248 => ?_) (fun h248 => ?_)
    · refine Seg.step (pc' := 1746) (I_iinc dL_law_1743 rfl (by decide) rfl) ?_
      refine Seg.step (pc' := 23) (I_goto (tgt := 23) dL_law_1746 (by decide)) ?_
      exact S_arr (fun K hK => GG.widen (by first | (show 140 + 2 * (min (x1.1.toNat / 6) 512) + 0 ≤ 140 + 2 * (min ((w32 (x1.1 + 6)).toNat / 6) 512); unfold w32 at *; omega) | (show 140 + 2 * (min (x1.1.toNat / 6) 512) + 2 ≤ 140 + 2 * (min ((w32 (x1.1 + 6)).toNat / 6) 512); unfold w32 at *; omega)) (by first | (show 4222 + 16 * (min (x1.1.toNat / 6) 512) + 0 ≤ 4222 + 16 * (min ((w32 (x1.1 + 6)).toNat / 6) 512); unfold w32 at *; omega) | (show 4222 + 16 * (min (x1.1.toNat / 6) 512) + 16 ≤ 4222 + 16 * (min ((w32 (x1.1 + 6)).toNat / 6) 512); unfold w32 at *; omega)) (GG.forget (Lle.ye (Lle.ye (Lle.ye (Lle.ye (Lle.ye (Lle.no (Lle.no (Lle.nil)))))))) hK))
    refine Seg.step (pc' := 1354) (I_iconst dL_law_1353 ⟨by decide, by decide⟩) ?_
    exact S_zret dL_law_1354 rfl (by decide) (by first | (show 140 + 2 * (min (x1.1.toNat / 6) 512) + 0 ≤ 1166; omega) | (show 140 + 2 * (min (x1.1.toNat / 6) 512) + 2 ≤ 1166; omega)) (by first | (show 4222 + 16 * (min (x1.1.toNat / 6) 512) + 0 ≤ 12426; omega) | (show 4222 + 16 * (min (x1.1.toNat / 6) 512) + 16 ≤ 12426; omega)) (fun K hK => hK)
  refine S_ite (fun h249 => ?_) (fun h249 => ?_)
  · refine Seg.step (I_tsw (v := 31) (off := 1315) (tgt := 1355) dL_law_40 h249 (by decide) rfl (by decide)) ?_
    refine Seg.step (pc' := 1356) (I_aload_n (i := 1) dL_law_1355 rfl rfl) ?_
    refine Seg.step (pc' := 1357) (I_aload_s (i := 0) dL_law_1356 rfl rfl) ?_
    refine Seg.step (pc' := 1359) (I_iload dL_law_1357 rfl) ?_
    refine Seg.step (pc' := 1360) (I_iconst dL_law_1359 ⟨by decide, by decide⟩) ?_
    refine Seg.step (pc' := 1361) (I_iadd dL_law_1360) ?_
    refine S_gd fun h250 => ?_
    refine Seg.step (pc' := 1362) (I_sld h250 dL_law_1361) ?_
    refine Seg.step (pc' := 1363) (I_aload_s (i := 0) dL_law_1362 rfl rfl) ?_
    refine Seg.step (pc' := 1365) (I_iload dL_law_1363 rfl) ?_
    refine Seg.step (pc' := 1366) (I_iconst dL_law_1365 ⟨by decide, by decide⟩) ?_
    refine Seg.step (pc' := 1367) (I_iadd dL_law_1366) ?_
    refine S_gd fun h251 => ?_
    refine Seg.step (pc' := 1368) (I_sld h251 dL_law_1367) ?_
    refine S_callV2 (md' := m_X11_apart) (fun y => some (iV y.1)) (fun y => (sh, false, R, y.2)) (hE _ _ sk_11) ⟨by decide, rfl⟩ mm_X11_apart wm_L_159 ⟨rfl, rfl, by decide, by decide, by first | (show 140 + 2 * (min (x1.1.toNat / 6) 512) + 0 ≤ 1166; omega) | (show 140 + 2 * (min (x1.1.toNat / 6) 512) + 2 ≤ 1166; omega), by first | (show 4222 + 16 * (min (x1.1.toNat / 6) 512) + 0 ≤ 12426; omega) | (show 4222 + 16 * (min (x1.1.toNat / 6) 512) + 16 ≤ 12426; omega)⟩ (Nat.le_of_ble_eq_true rfl) dL_law_1368 (fun y hy => c_X11_apart hE hL y hy) (fun x252 => ?_)
    refine Seg.step (pc' := 1372) (I_aload_n (i := 2) dL_law_1371 rfl rfl) ?_
    refine Seg.step (pc' := 1373) (I_aload_s (i := 0) dL_law_1372 rfl rfl) ?_
    refine Seg.step (pc' := 1375) (I_iload dL_law_1373 rfl) ?_
    refine Seg.step (pc' := 1376) (I_iconst dL_law_1375 ⟨by decide, by decide⟩) ?_
    refine Seg.step (pc' := 1377) (I_iadd dL_law_1376) ?_
    refine S_gd fun h253 => ?_
    refine Seg.step (pc' := 1378) (I_sld h253 dL_law_1377) ?_
    refine Seg.step (pc' := 1379) (I_aload_s (i := 0) dL_law_1378 rfl rfl) ?_
    refine Seg.step (pc' := 1381) (I_iload dL_law_1379 rfl) ?_
    refine Seg.step (pc' := 1382) (I_iconst dL_law_1381 ⟨by decide, by decide⟩) ?_
    refine Seg.step (pc' := 1383) (I_iadd dL_law_1382) ?_
    refine S_gd fun h254 => ?_
    refine Seg.step (pc' := 1384) (I_sld h254 dL_law_1383) ?_
    refine S_callV2 (md' := m_X12_apart) (fun y => some (iV y.1)) (fun y => (sh, false, R, y.2)) (hE _ _ sk_12) ⟨by decide, rfl⟩ mm_X12_apart wm_L_162 ⟨rfl, rfl, by decide, by decide, by first | (show 140 + 2 * (min (x1.1.toNat / 6) 512) + 0 ≤ 1166; omega) | (show 140 + 2 * (min (x1.1.toNat / 6) 512) + 2 ≤ 1166; omega), by first | (show 4222 + 16 * (min (x1.1.toNat / 6) 512) + 0 ≤ 12426; omega) | (show 4222 + 16 * (min (x1.1.toNat / 6) 512) + 16 ≤ 12426; omega)⟩ (Nat.le_of_ble_eq_true rfl) dL_law_1384 (fun y hy => c_X12_apart hE hL y hy) (fun x255 => ?_)
    refine S_icmp_eq (tgt := 1743) dL_law_1387 (by decide) (fun h256 => ?_) (fun h256 => ?_)
    · refine Seg.step (pc' := 1746) (I_iinc dL_law_1743 rfl (by decide) rfl) ?_
      refine Seg.step (pc' := 23) (I_goto (tgt := 23) dL_law_1746 (by decide)) ?_
      exact S_arr (fun K hK => GG.widen (by first | (show 140 + 2 * (min (x1.1.toNat / 6) 512) + 0 ≤ 140 + 2 * (min ((w32 (x1.1 + 6)).toNat / 6) 512); unfold w32 at *; omega) | (show 140 + 2 * (min (x1.1.toNat / 6) 512) + 2 ≤ 140 + 2 * (min ((w32 (x1.1 + 6)).toNat / 6) 512); unfold w32 at *; omega)) (by first | (show 4222 + 16 * (min (x1.1.toNat / 6) 512) + 0 ≤ 4222 + 16 * (min ((w32 (x1.1 + 6)).toNat / 6) 512); unfold w32 at *; omega) | (show 4222 + 16 * (min (x1.1.toNat / 6) 512) + 16 ≤ 4222 + 16 * (min ((w32 (x1.1 + 6)).toNat / 6) 512); unfold w32 at *; omega)) (GG.forget (Lle.ye (Lle.ye (Lle.ye (Lle.ye (Lle.ye (Lle.no (Lle.no (Lle.nil)))))))) hK))
    refine Seg.step (pc' := 1391) (I_iconst dL_law_1390 ⟨by decide, by decide⟩) ?_
    exact S_zret dL_law_1391 rfl (by decide) (by first | (show 140 + 2 * (min (x1.1.toNat / 6) 512) + 0 ≤ 1166; omega) | (show 140 + 2 * (min (x1.1.toNat / 6) 512) + 2 ≤ 1166; omega)) (by first | (show 4222 + 16 * (min (x1.1.toNat / 6) 512) + 0 ≤ 12426; omega) | (show 4222 + 16 * (min (x1.1.toNat / 6) 512) + 16 ≤ 12426; omega)) (fun K hK => hK)
  refine S_ite (fun h257 => ?_) (fun h257 => ?_)
  · refine Seg.step (I_tsw (v := 32) (off := 1352) (tgt := 1392) dL_law_40 h257 (by decide) rfl (by decide)) ?_
    refine Seg.step (pc' := 1393) (I_aload_n (i := 1) dL_law_1392 rfl rfl) ?_
    refine Seg.step (pc' := 1394) (I_aload_s (i := 0) dL_law_1393 rfl rfl) ?_
    refine Seg.step (pc' := 1396) (I_iload dL_law_1394 rfl) ?_
    refine Seg.step (pc' := 1397) (I_iconst dL_law_1396 ⟨by decide, by decide⟩) ?_
    refine Seg.step (pc' := 1398) (I_iadd dL_law_1397) ?_
    refine S_gd fun h258 => ?_
    refine Seg.step (pc' := 1399) (I_sld h258 dL_law_1398) ?_
    refine Seg.step (pc' := 1400) (I_aload_s (i := 0) dL_law_1399 rfl rfl) ?_
    refine Seg.step (pc' := 1402) (I_iload dL_law_1400 rfl) ?_
    refine Seg.step (pc' := 1403) (I_iconst dL_law_1402 ⟨by decide, by decide⟩) ?_
    refine Seg.step (pc' := 1404) (I_iadd dL_law_1403) ?_
    refine S_gd fun h259 => ?_
    refine Seg.step (pc' := 1405) (I_sld h259 dL_law_1404) ?_
    refine S_callV2 (md' := m_X11_feels) (fun y => some (iV y.1)) (fun y => (sh, false, R, y.2)) (hE _ _ sk_11) ⟨by decide, rfl⟩ mm_X11_feels wm_L_163 ⟨rfl, rfl, by decide, by decide, by first | (show 140 + 2 * (min (x1.1.toNat / 6) 512) + 0 ≤ 1166; omega) | (show 140 + 2 * (min (x1.1.toNat / 6) 512) + 2 ≤ 1166; omega), by first | (show 4222 + 16 * (min (x1.1.toNat / 6) 512) + 0 ≤ 12426; omega) | (show 4222 + 16 * (min (x1.1.toNat / 6) 512) + 16 ≤ 12426; omega)⟩ (Nat.le_of_ble_eq_true rfl) dL_law_1405 (fun y hy => c_X11_feels hE hL y hy) (fun x260 => ?_)
    refine Seg.step (pc' := 1409) (I_aload_n (i := 2) dL_law_1408 rfl rfl) ?_
    refine Seg.step (pc' := 1410) (I_aload_s (i := 0) dL_law_1409 rfl rfl) ?_
    refine Seg.step (pc' := 1412) (I_iload dL_law_1410 rfl) ?_
    refine Seg.step (pc' := 1413) (I_iconst dL_law_1412 ⟨by decide, by decide⟩) ?_
    refine Seg.step (pc' := 1414) (I_iadd dL_law_1413) ?_
    refine S_gd fun h261 => ?_
    refine Seg.step (pc' := 1415) (I_sld h261 dL_law_1414) ?_
    refine Seg.step (pc' := 1416) (I_aload_s (i := 0) dL_law_1415 rfl rfl) ?_
    refine Seg.step (pc' := 1418) (I_iload dL_law_1416 rfl) ?_
    refine Seg.step (pc' := 1419) (I_iconst dL_law_1418 ⟨by decide, by decide⟩) ?_
    refine Seg.step (pc' := 1420) (I_iadd dL_law_1419) ?_
    refine S_gd fun h262 => ?_
    refine Seg.step (pc' := 1421) (I_sld h262 dL_law_1420) ?_
    refine S_callV2 (md' := m_X12_feels) (fun y => some (iV y.1)) (fun y => (sh, false, R, y.2)) (hE _ _ sk_12) ⟨by decide, rfl⟩ mm_X12_feels wm_L_166 ⟨rfl, rfl, by decide, by decide, by first | (show 140 + 2 * (min (x1.1.toNat / 6) 512) + 0 ≤ 1166; omega) | (show 140 + 2 * (min (x1.1.toNat / 6) 512) + 2 ≤ 1166; omega), by first | (show 4222 + 16 * (min (x1.1.toNat / 6) 512) + 0 ≤ 12426; omega) | (show 4222 + 16 * (min (x1.1.toNat / 6) 512) + 16 ≤ 12426; omega)⟩ (Nat.le_of_ble_eq_true rfl) dL_law_1421 (fun y hy => c_X12_feels hE hL y hy) (fun x263 => ?_)
    refine S_icmp_eq (tgt := 1743) dL_law_1424 (by decide) (fun h264 => ?_) (fun h264 => ?_)
    · refine Seg.step (pc' := 1746) (I_iinc dL_law_1743 rfl (by decide) rfl) ?_
      refine Seg.step (pc' := 23) (I_goto (tgt := 23) dL_law_1746 (by decide)) ?_
      exact S_arr (fun K hK => GG.widen (by first | (show 140 + 2 * (min (x1.1.toNat / 6) 512) + 0 ≤ 140 + 2 * (min ((w32 (x1.1 + 6)).toNat / 6) 512); unfold w32 at *; omega) | (show 140 + 2 * (min (x1.1.toNat / 6) 512) + 2 ≤ 140 + 2 * (min ((w32 (x1.1 + 6)).toNat / 6) 512); unfold w32 at *; omega)) (by first | (show 4222 + 16 * (min (x1.1.toNat / 6) 512) + 0 ≤ 4222 + 16 * (min ((w32 (x1.1 + 6)).toNat / 6) 512); unfold w32 at *; omega) | (show 4222 + 16 * (min (x1.1.toNat / 6) 512) + 16 ≤ 4222 + 16 * (min ((w32 (x1.1 + 6)).toNat / 6) 512); unfold w32 at *; omega)) (GG.forget (Lle.ye (Lle.ye (Lle.ye (Lle.ye (Lle.ye (Lle.no (Lle.no (Lle.nil)))))))) hK))
    refine Seg.step (pc' := 1428) (I_iconst dL_law_1427 ⟨by decide, by decide⟩) ?_
    exact S_zret dL_law_1428 rfl (by decide) (by first | (show 140 + 2 * (min (x1.1.toNat / 6) 512) + 0 ≤ 1166; omega) | (show 140 + 2 * (min (x1.1.toNat / 6) 512) + 2 ≤ 1166; omega)) (by first | (show 4222 + 16 * (min (x1.1.toNat / 6) 512) + 0 ≤ 12426; omega) | (show 4222 + 16 * (min (x1.1.toNat / 6) 512) + 16 ≤ 12426; omega)) (fun K hK => hK)
  refine S_ite (fun h265 => ?_) (fun h265 => ?_)
  · refine Seg.step (I_tsw (v := 33) (off := 1389) (tgt := 1429) dL_law_40 h265 (by decide) rfl (by decide)) ?_
    refine Seg.step (pc' := 1430) (I_aload_n (i := 1) dL_law_1429 rfl rfl) ?_
    refine Seg.step (pc' := 1431) (I_aload_s (i := 0) dL_law_1430 rfl rfl) ?_
    refine Seg.step (pc' := 1433) (I_iload dL_law_1431 rfl) ?_
    refine Seg.step (pc' := 1434) (I_iconst dL_law_1433 ⟨by decide, by decide⟩) ?_
    refine Seg.step (pc' := 1435) (I_iadd dL_law_1434) ?_
    refine S_gd fun h266 => ?_
    refine Seg.step (pc' := 1436) (I_sld h266 dL_law_1435) ?_
    refine Seg.step (pc' := 1437) (I_aload_s (i := 0) dL_law_1436 rfl rfl) ?_
    refine Seg.step (pc' := 1439) (I_iload dL_law_1437 rfl) ?_
    refine Seg.step (pc' := 1440) (I_iconst dL_law_1439 ⟨by decide, by decide⟩) ?_
    refine Seg.step (pc' := 1441) (I_iadd dL_law_1440) ?_
    refine S_gd fun h267 => ?_
    refine Seg.step (pc' := 1442) (I_sld h267 dL_law_1441) ?_
    refine Seg.step (pc' := 1443) (I_aload_s (i := 0) dL_law_1442 rfl rfl) ?_
    refine Seg.step (pc' := 1445) (I_iload dL_law_1443 rfl) ?_
    refine Seg.step (pc' := 1446) (I_iconst dL_law_1445 ⟨by decide, by decide⟩) ?_
    refine Seg.step (pc' := 1447) (I_iadd dL_law_1446) ?_
    refine S_gd fun h268 => ?_
    refine Seg.step (pc' := 1448) (I_sld h268 dL_law_1447) ?_
    refine S_bind (Y := Int) (k' := (140 + 2 * (min (x1.1.toNat / 6) 512))) (n' := (4222 + 16 * (min (x1.1.toNat / 6) 512))) 1456 (fun y => [some sV, some (rV 0), some (rV 88), some (rV 139), some (iV x1.1), none, none]) (fun y => [iV y, iV ((E.2.2.2.2.2.2 (w32 (x1.1 + 2)).toNat).toInt), iV ((E.2.2.2.2.2.2 (w32 (x1.1 + 1)).toNat).toInt), rV 0]) (fun y => (sh, false, R, x1.2)) ?_ (fun x270 => ?_)
    · refine S_if_eq (tgt := 1455) dL_law_1448 (by decide) (fun h269 => ?_) (fun h269 => ?_)
      · refine Seg.step (pc' := 1456) (I_iconst dL_law_1455 ⟨by decide, by decide⟩) ?_
        exact S_arr (fun K hK => GG.forget (Lle.ye (Lle.ye (Lle.ye (Lle.ye (Lle.ye (Lle.no (Lle.no (Lle.nil)))))))) hK)
      refine Seg.step (pc' := 1452) (I_iconst dL_law_1451 ⟨by decide, by decide⟩) ?_
      refine Seg.step (pc' := 1456) (I_goto (tgt := 1456) dL_law_1452 (by decide)) ?_
      exact S_arr (fun K hK => GG.forget (Lle.ye (Lle.ye (Lle.ye (Lle.ye (Lle.ye (Lle.no (Lle.no (Lle.nil)))))))) hK)
    refine S_callV3 (md' := m_X11_wear) (fun y => some (iV y.1)) (fun y => (sh, false, R, y.2)) (hE _ _ sk_11) ⟨by decide, rfl⟩ mm_X11_wear wm_L_167 ⟨rfl, rfl, by decide, by decide, by first | (show 140 + 2 * (min (x1.1.toNat / 6) 512) + 0 ≤ 1166; omega) | (show 140 + 2 * (min (x1.1.toNat / 6) 512) + 2 ≤ 1166; omega), by first | (show 4222 + 16 * (min (x1.1.toNat / 6) 512) + 0 ≤ 12426; omega) | (show 4222 + 16 * (min (x1.1.toNat / 6) 512) + 16 ≤ 12426; omega)⟩ (Nat.le_of_ble_eq_true rfl) dL_law_1456 (fun y hy => c_X11_wear hE hL y hy) (fun x271 => ?_)
    refine Seg.step (pc' := 1460) (I_aload_n (i := 2) dL_law_1459 rfl rfl) ?_
    refine Seg.step (pc' := 1461) (I_aload_s (i := 0) dL_law_1460 rfl rfl) ?_
    refine Seg.step (pc' := 1463) (I_iload dL_law_1461 rfl) ?_
    refine Seg.step (pc' := 1464) (I_iconst dL_law_1463 ⟨by decide, by decide⟩) ?_
    refine Seg.step (pc' := 1465) (I_iadd dL_law_1464) ?_
    refine S_gd fun h272 => ?_
    refine Seg.step (pc' := 1466) (I_sld h272 dL_law_1465) ?_
    refine Seg.step (pc' := 1467) (I_aload_s (i := 0) dL_law_1466 rfl rfl) ?_
    refine Seg.step (pc' := 1469) (I_iload dL_law_1467 rfl) ?_
    refine Seg.step (pc' := 1470) (I_iconst dL_law_1469 ⟨by decide, by decide⟩) ?_
    refine Seg.step (pc' := 1471) (I_iadd dL_law_1470) ?_
    refine S_gd fun h273 => ?_
    refine Seg.step (pc' := 1472) (I_sld h273 dL_law_1471) ?_
    refine Seg.step (pc' := 1473) (I_aload_s (i := 0) dL_law_1472 rfl rfl) ?_
    refine Seg.step (pc' := 1475) (I_iload dL_law_1473 rfl) ?_
    refine Seg.step (pc' := 1476) (I_iconst dL_law_1475 ⟨by decide, by decide⟩) ?_
    refine Seg.step (pc' := 1477) (I_iadd dL_law_1476) ?_
    refine S_gd fun h274 => ?_
    refine Seg.step (pc' := 1478) (I_sld h274 dL_law_1477) ?_
    refine S_bind (Y := Int) (k' := (140 + 2 * (min (x1.1.toNat / 6) 512))) (n' := (4222 + 16 * (min (x1.1.toNat / 6) 512))) 1486 (fun y => [some sV, some (rV 0), some (rV 88), some (rV 139), some (iV x1.1), none, none]) (fun y => [iV y, iV ((E.2.2.2.2.2.2 (w32 (x1.1 + 2)).toNat).toInt), iV ((E.2.2.2.2.2.2 (w32 (x1.1 + 1)).toNat).toInt), rV 88, iV x271.1]) (fun y => (sh, false, R, x271.2)) ?_ (fun x276 => ?_)
    · refine S_if_eq (tgt := 1485) dL_law_1478 (by decide) (fun h275 => ?_) (fun h275 => ?_)
      · refine Seg.step (pc' := 1486) (I_iconst dL_law_1485 ⟨by decide, by decide⟩) ?_
        exact S_arr (fun K hK => GG.forget (Lle.ye (Lle.ye (Lle.ye (Lle.ye (Lle.ye (Lle.no (Lle.no (Lle.nil)))))))) hK)
      refine Seg.step (pc' := 1482) (I_iconst dL_law_1481 ⟨by decide, by decide⟩) ?_
      refine Seg.step (pc' := 1486) (I_goto (tgt := 1486) dL_law_1482 (by decide)) ?_
      exact S_arr (fun K hK => GG.forget (Lle.ye (Lle.ye (Lle.ye (Lle.ye (Lle.ye (Lle.no (Lle.no (Lle.nil)))))))) hK)
    refine S_callV3 (md' := m_X12_wear) (fun y => some (iV y.1)) (fun y => (sh, false, R, y.2)) (hE _ _ sk_12) ⟨by decide, rfl⟩ mm_X12_wear wm_L_171 ⟨rfl, rfl, by decide, by decide, by first | (show 140 + 2 * (min (x1.1.toNat / 6) 512) + 0 ≤ 1166; omega) | (show 140 + 2 * (min (x1.1.toNat / 6) 512) + 2 ≤ 1166; omega), by first | (show 4222 + 16 * (min (x1.1.toNat / 6) 512) + 0 ≤ 12426; omega) | (show 4222 + 16 * (min (x1.1.toNat / 6) 512) + 16 ≤ 12426; omega)⟩ (Nat.le_of_ble_eq_true rfl) dL_law_1486 (fun y hy => c_X12_wear hE hL y hy) (fun x277 => ?_)
    refine S_icmp_eq (tgt := 1743) dL_law_1489 (by decide) (fun h278 => ?_) (fun h278 => ?_)
    · refine Seg.step (pc' := 1746) (I_iinc dL_law_1743 rfl (by decide) rfl) ?_
      refine Seg.step (pc' := 23) (I_goto (tgt := 23) dL_law_1746 (by decide)) ?_
      exact S_arr (fun K hK => GG.widen (by first | (show 140 + 2 * (min (x1.1.toNat / 6) 512) + 0 ≤ 140 + 2 * (min ((w32 (x1.1 + 6)).toNat / 6) 512); unfold w32 at *; omega) | (show 140 + 2 * (min (x1.1.toNat / 6) 512) + 2 ≤ 140 + 2 * (min ((w32 (x1.1 + 6)).toNat / 6) 512); unfold w32 at *; omega)) (by first | (show 4222 + 16 * (min (x1.1.toNat / 6) 512) + 0 ≤ 4222 + 16 * (min ((w32 (x1.1 + 6)).toNat / 6) 512); unfold w32 at *; omega) | (show 4222 + 16 * (min (x1.1.toNat / 6) 512) + 16 ≤ 4222 + 16 * (min ((w32 (x1.1 + 6)).toNat / 6) 512); unfold w32 at *; omega)) (GG.forget (Lle.ye (Lle.ye (Lle.ye (Lle.ye (Lle.ye (Lle.no (Lle.no (Lle.nil)))))))) hK))
    refine Seg.step (pc' := 1493) (I_iconst dL_law_1492 ⟨by decide, by decide⟩) ?_
    exact S_zret dL_law_1493 rfl (by decide) (by first | (show 140 + 2 * (min (x1.1.toNat / 6) 512) + 0 ≤ 1166; omega) | (show 140 + 2 * (min (x1.1.toNat / 6) 512) + 2 ≤ 1166; omega)) (by first | (show 4222 + 16 * (min (x1.1.toNat / 6) 512) + 0 ≤ 12426; omega) | (show 4222 + 16 * (min (x1.1.toNat / 6) 512) + 16 ≤ 12426; omega)) (fun K hK => hK)
  refine S_ite (fun h279 => ?_) (fun h279 => ?_)
  · refine Seg.step (I_tsw (v := 34) (off := 1454) (tgt := 1494) dL_law_40 h279 (by decide) rfl (by decide)) ?_
    refine Seg.step (pc' := 1495) (I_aload_n (i := 1) dL_law_1494 rfl rfl) ?_
    refine Seg.step (pc' := 1496) (I_aload_s (i := 0) dL_law_1495 rfl rfl) ?_
    refine Seg.step (pc' := 1498) (I_iload dL_law_1496 rfl) ?_
    refine Seg.step (pc' := 1499) (I_iconst dL_law_1498 ⟨by decide, by decide⟩) ?_
    refine Seg.step (pc' := 1500) (I_iadd dL_law_1499) ?_
    refine S_gd fun h280 => ?_
    refine Seg.step (pc' := 1501) (I_sld h280 dL_law_1500) ?_
    refine S_callV1 (md' := m_X11_strike) (fun y => some (iV y.1)) (fun y => (sh, false, R, y.2)) (hE _ _ sk_11) ⟨by decide, rfl⟩ mm_X11_strike wm_L_172 ⟨rfl, rfl, by decide, by decide, by first | (show 140 + 2 * (min (x1.1.toNat / 6) 512) + 0 ≤ 1166; omega) | (show 140 + 2 * (min (x1.1.toNat / 6) 512) + 2 ≤ 1166; omega), by first | (show 4222 + 16 * (min (x1.1.toNat / 6) 512) + 0 ≤ 12426; omega) | (show 4222 + 16 * (min (x1.1.toNat / 6) 512) + 16 ≤ 12426; omega)⟩ (Nat.le_of_ble_eq_true rfl) dL_law_1501 (fun y hy => c_X11_strike hE hL y hy) (fun x281 => ?_)
    refine Seg.step (pc' := 1505) (I_aload_n (i := 2) dL_law_1504 rfl rfl) ?_
    refine Seg.step (pc' := 1506) (I_aload_s (i := 0) dL_law_1505 rfl rfl) ?_
    refine Seg.step (pc' := 1508) (I_iload dL_law_1506 rfl) ?_
    refine Seg.step (pc' := 1509) (I_iconst dL_law_1508 ⟨by decide, by decide⟩) ?_
    refine Seg.step (pc' := 1510) (I_iadd dL_law_1509) ?_
    refine S_gd fun h282 => ?_
    refine Seg.step (pc' := 1511) (I_sld h282 dL_law_1510) ?_
    refine S_callV1 (md' := m_X12_strike) (fun y => some (iV y.1)) (fun y => (sh, false, R, y.2)) (hE _ _ sk_12) ⟨by decide, rfl⟩ mm_X12_strike wm_L_175 ⟨rfl, rfl, by decide, by decide, by first | (show 140 + 2 * (min (x1.1.toNat / 6) 512) + 0 ≤ 1166; omega) | (show 140 + 2 * (min (x1.1.toNat / 6) 512) + 2 ≤ 1166; omega), by first | (show 4222 + 16 * (min (x1.1.toNat / 6) 512) + 0 ≤ 12426; omega) | (show 4222 + 16 * (min (x1.1.toNat / 6) 512) + 16 ≤ 12426; omega)⟩ (Nat.le_of_ble_eq_true rfl) dL_law_1511 (fun y hy => c_X12_strike hE hL y hy) (fun x283 => ?_)
    refine S_icmp_eq (tgt := 1743) dL_law_1514 (by decide) (fun h284 => ?_) (fun h284 => ?_)
    · refine Seg.step (pc' := 1746) (I_iinc dL_law_1743 rfl (by decide) rfl) ?_
      refine Seg.step (pc' := 23) (I_goto (tgt := 23) dL_law_1746 (by decide)) ?_
      exact S_arr (fun K hK => GG.widen (by first | (show 140 + 2 * (min (x1.1.toNat / 6) 512) + 0 ≤ 140 + 2 * (min ((w32 (x1.1 + 6)).toNat / 6) 512); unfold w32 at *; omega) | (show 140 + 2 * (min (x1.1.toNat / 6) 512) + 2 ≤ 140 + 2 * (min ((w32 (x1.1 + 6)).toNat / 6) 512); unfold w32 at *; omega)) (by first | (show 4222 + 16 * (min (x1.1.toNat / 6) 512) + 0 ≤ 4222 + 16 * (min ((w32 (x1.1 + 6)).toNat / 6) 512); unfold w32 at *; omega) | (show 4222 + 16 * (min (x1.1.toNat / 6) 512) + 16 ≤ 4222 + 16 * (min ((w32 (x1.1 + 6)).toNat / 6) 512); unfold w32 at *; omega)) (GG.forget (Lle.ye (Lle.ye (Lle.ye (Lle.ye (Lle.ye (Lle.no (Lle.no (Lle.nil)))))))) hK))
    refine Seg.step (pc' := 1518) (I_iconst dL_law_1517 ⟨by decide, by decide⟩) ?_
    exact S_zret dL_law_1518 rfl (by decide) (by first | (show 140 + 2 * (min (x1.1.toNat / 6) 512) + 0 ≤ 1166; omega) | (show 140 + 2 * (min (x1.1.toNat / 6) 512) + 2 ≤ 1166; omega)) (by first | (show 4222 + 16 * (min (x1.1.toNat / 6) 512) + 0 ≤ 12426; omega) | (show 4222 + 16 * (min (x1.1.toNat / 6) 512) + 16 ≤ 12426; omega)) (fun K hK => hK)
  refine S_ite (fun h285 => ?_) (fun h285 => ?_)
  · refine Seg.step (I_tsw (v := 35) (off := 1479) (tgt := 1519) dL_law_40 h285 (by decide) rfl (by decide)) ?_
    refine Seg.step (pc' := 1520) (I_aload_n (i := 1) dL_law_1519 rfl rfl) ?_
    refine Seg.step (pc' := 1521) (I_aload_s (i := 0) dL_law_1520 rfl rfl) ?_
    refine Seg.step (pc' := 1523) (I_iload dL_law_1521 rfl) ?_
    refine Seg.step (pc' := 1524) (I_iconst dL_law_1523 ⟨by decide, by decide⟩) ?_
    refine Seg.step (pc' := 1525) (I_iadd dL_law_1524) ?_
    refine S_gd fun h286 => ?_
    refine Seg.step (pc' := 1526) (I_sld h286 dL_law_1525) ?_
    refine S_callV1 (md' := m_X11_known) (fun y => some (iV y.1)) (fun y => (sh, false, R, y.2)) (hE _ _ sk_11) ⟨by decide, rfl⟩ mm_X11_known wm_L_176 ⟨rfl, rfl, by decide, by decide, by first | (show 140 + 2 * (min (x1.1.toNat / 6) 512) + 0 ≤ 1166; omega) | (show 140 + 2 * (min (x1.1.toNat / 6) 512) + 2 ≤ 1166; omega), by first | (show 4222 + 16 * (min (x1.1.toNat / 6) 512) + 0 ≤ 12426; omega) | (show 4222 + 16 * (min (x1.1.toNat / 6) 512) + 16 ≤ 12426; omega)⟩ (Nat.le_of_ble_eq_true rfl) dL_law_1526 (fun y hy => c_X11_known hE hL y hy) (fun x287 => ?_)
    refine Seg.step (pc' := 1530) (I_aload_n (i := 2) dL_law_1529 rfl rfl) ?_
    refine Seg.step (pc' := 1531) (I_aload_s (i := 0) dL_law_1530 rfl rfl) ?_
    refine Seg.step (pc' := 1533) (I_iload dL_law_1531 rfl) ?_
    refine Seg.step (pc' := 1534) (I_iconst dL_law_1533 ⟨by decide, by decide⟩) ?_
    refine Seg.step (pc' := 1535) (I_iadd dL_law_1534) ?_
    refine S_gd fun h288 => ?_
    refine Seg.step (pc' := 1536) (I_sld h288 dL_law_1535) ?_
    refine S_callV1 (md' := m_X12_known) (fun y => some (iV y.1)) (fun y => (sh, false, R, y.2)) (hE _ _ sk_12) ⟨by decide, rfl⟩ mm_X12_known wm_L_179 ⟨rfl, rfl, by decide, by decide, by first | (show 140 + 2 * (min (x1.1.toNat / 6) 512) + 0 ≤ 1166; omega) | (show 140 + 2 * (min (x1.1.toNat / 6) 512) + 2 ≤ 1166; omega), by first | (show 4222 + 16 * (min (x1.1.toNat / 6) 512) + 0 ≤ 12426; omega) | (show 4222 + 16 * (min (x1.1.toNat / 6) 512) + 16 ≤ 12426; omega)⟩ (Nat.le_of_ble_eq_true rfl) dL_law_1536 (fun y hy => c_X12_known hE hL y hy) (fun x289 => ?_)
    refine S_icmp_eq (tgt := 1743) dL_law_1539 (by decide) (fun h290 => ?_) (fun h290 => ?_)
    · refine Seg.step (pc' := 1746) (I_iinc dL_law_1743 rfl (by decide) rfl) ?_
      refine Seg.step (pc' := 23) (I_goto (tgt := 23) dL_law_1746 (by decide)) ?_
      exact S_arr (fun K hK => GG.widen (by first | (show 140 + 2 * (min (x1.1.toNat / 6) 512) + 0 ≤ 140 + 2 * (min ((w32 (x1.1 + 6)).toNat / 6) 512); unfold w32 at *; omega) | (show 140 + 2 * (min (x1.1.toNat / 6) 512) + 2 ≤ 140 + 2 * (min ((w32 (x1.1 + 6)).toNat / 6) 512); unfold w32 at *; omega)) (by first | (show 4222 + 16 * (min (x1.1.toNat / 6) 512) + 0 ≤ 4222 + 16 * (min ((w32 (x1.1 + 6)).toNat / 6) 512); unfold w32 at *; omega) | (show 4222 + 16 * (min (x1.1.toNat / 6) 512) + 16 ≤ 4222 + 16 * (min ((w32 (x1.1 + 6)).toNat / 6) 512); unfold w32 at *; omega)) (GG.forget (Lle.ye (Lle.ye (Lle.ye (Lle.ye (Lle.ye (Lle.no (Lle.no (Lle.nil)))))))) hK))
    refine Seg.step (pc' := 1543) (I_iconst dL_law_1542 ⟨by decide, by decide⟩) ?_
    exact S_zret dL_law_1543 rfl (by decide) (by first | (show 140 + 2 * (min (x1.1.toNat / 6) 512) + 0 ≤ 1166; omega) | (show 140 + 2 * (min (x1.1.toNat / 6) 512) + 2 ≤ 1166; omega)) (by first | (show 4222 + 16 * (min (x1.1.toNat / 6) 512) + 0 ≤ 12426; omega) | (show 4222 + 16 * (min (x1.1.toNat / 6) 512) + 16 ≤ 12426; omega)) (fun K hK => hK)
  refine S_ite (fun h291 => ?_) (fun h291 => ?_)
  · refine Seg.step (I_tsw (v := 36) (off := 1504) (tgt := 1544) dL_law_40 h291 (by decide) rfl (by decide)) ?_
    refine Seg.step (pc' := 1545) (I_aload_n (i := 1) dL_law_1544 rfl rfl) ?_
    refine Seg.step (pc' := 1546) (I_aload_s (i := 0) dL_law_1545 rfl rfl) ?_
    refine Seg.step (pc' := 1548) (I_iload dL_law_1546 rfl) ?_
    refine Seg.step (pc' := 1549) (I_iconst dL_law_1548 ⟨by decide, by decide⟩) ?_
    refine Seg.step (pc' := 1550) (I_iadd dL_law_1549) ?_
    refine S_gd fun h292 => ?_
    refine Seg.step (pc' := 1551) (I_sld h292 dL_law_1550) ?_
    refine S_callV1 (md' := m_X11_lately) (fun y => some (iV y.1)) (fun y => (sh, false, R, y.2)) (hE _ _ sk_11) ⟨by decide, rfl⟩ mm_X11_lately wm_L_180 ⟨rfl, rfl, by decide, by decide, by first | (show 140 + 2 * (min (x1.1.toNat / 6) 512) + 0 ≤ 1166; omega) | (show 140 + 2 * (min (x1.1.toNat / 6) 512) + 2 ≤ 1166; omega), by first | (show 4222 + 16 * (min (x1.1.toNat / 6) 512) + 0 ≤ 12426; omega) | (show 4222 + 16 * (min (x1.1.toNat / 6) 512) + 16 ≤ 12426; omega)⟩ (Nat.le_of_ble_eq_true rfl) dL_law_1551 (fun y hy => c_X11_lately hE hL y hy) (fun x293 => ?_)
    refine Seg.step (pc' := 1555) (I_aload_n (i := 2) dL_law_1554 rfl rfl) ?_
    refine Seg.step (pc' := 1556) (I_aload_s (i := 0) dL_law_1555 rfl rfl) ?_
    refine Seg.step (pc' := 1558) (I_iload dL_law_1556 rfl) ?_
    refine Seg.step (pc' := 1559) (I_iconst dL_law_1558 ⟨by decide, by decide⟩) ?_
    refine Seg.step (pc' := 1560) (I_iadd dL_law_1559) ?_
    refine S_gd fun h294 => ?_
    refine Seg.step (pc' := 1561) (I_sld h294 dL_law_1560) ?_
    refine S_callV1 (md' := m_X12_lately) (fun y => some (iV y.1)) (fun y => (sh, false, R, y.2)) (hE _ _ sk_12) ⟨by decide, rfl⟩ mm_X12_lately wm_L_183 ⟨rfl, rfl, by decide, by decide, by first | (show 140 + 2 * (min (x1.1.toNat / 6) 512) + 0 ≤ 1166; omega) | (show 140 + 2 * (min (x1.1.toNat / 6) 512) + 2 ≤ 1166; omega), by first | (show 4222 + 16 * (min (x1.1.toNat / 6) 512) + 0 ≤ 12426; omega) | (show 4222 + 16 * (min (x1.1.toNat / 6) 512) + 16 ≤ 12426; omega)⟩ (Nat.le_of_ble_eq_true rfl) dL_law_1561 (fun y hy => c_X12_lately hE hL y hy) (fun x295 => ?_)
    refine S_icmp_eq (tgt := 1743) dL_law_1564 (by decide) (fun h296 => ?_) (fun h296 => ?_)
    · refine Seg.step (pc' := 1746) (I_iinc dL_law_1743 rfl (by decide) rfl) ?_
      refine Seg.step (pc' := 23) (I_goto (tgt := 23) dL_law_1746 (by decide)) ?_
      exact S_arr (fun K hK => GG.widen (by first | (show 140 + 2 * (min (x1.1.toNat / 6) 512) + 0 ≤ 140 + 2 * (min ((w32 (x1.1 + 6)).toNat / 6) 512); unfold w32 at *; omega) | (show 140 + 2 * (min (x1.1.toNat / 6) 512) + 2 ≤ 140 + 2 * (min ((w32 (x1.1 + 6)).toNat / 6) 512); unfold w32 at *; omega)) (by first | (show 4222 + 16 * (min (x1.1.toNat / 6) 512) + 0 ≤ 4222 + 16 * (min ((w32 (x1.1 + 6)).toNat / 6) 512); unfold w32 at *; omega) | (show 4222 + 16 * (min (x1.1.toNat / 6) 512) + 16 ≤ 4222 + 16 * (min ((w32 (x1.1 + 6)).toNat / 6) 512); unfold w32 at *; omega)) (GG.forget (Lle.ye (Lle.ye (Lle.ye (Lle.ye (Lle.ye (Lle.no (Lle.no (Lle.nil)))))))) hK))
    refine Seg.step (pc' := 1568) (I_iconst dL_law_1567 ⟨by decide, by decide⟩) ?_
    exact S_zret dL_law_1568 rfl (by decide) (by first | (show 140 + 2 * (min (x1.1.toNat / 6) 512) + 0 ≤ 1166; omega) | (show 140 + 2 * (min (x1.1.toNat / 6) 512) + 2 ≤ 1166; omega)) (by first | (show 4222 + 16 * (min (x1.1.toNat / 6) 512) + 0 ≤ 12426; omega) | (show 4222 + 16 * (min (x1.1.toNat / 6) 512) + 16 ≤ 12426; omega)) (fun K hK => hK)
  refine S_ite (fun h297 => ?_) (fun h297 => ?_)
  · refine Seg.step (I_tsw (v := 37) (off := 1529) (tgt := 1569) dL_law_40 h297 (by decide) rfl (by decide)) ?_
    refine Seg.step (pc' := 1570) (I_aload_n (i := 1) dL_law_1569 rfl rfl) ?_
    refine Seg.step (pc' := 1571) (I_aload_s (i := 0) dL_law_1570 rfl rfl) ?_
    refine Seg.step (pc' := 1573) (I_iload dL_law_1571 rfl) ?_
    refine Seg.step (pc' := 1574) (I_iconst dL_law_1573 ⟨by decide, by decide⟩) ?_
    refine Seg.step (pc' := 1575) (I_iadd dL_law_1574) ?_
    refine S_gd fun h298 => ?_
    refine Seg.step (pc' := 1576) (I_sld h298 dL_law_1575) ?_
    refine Seg.step (pc' := 1577) (I_aload_s (i := 0) dL_law_1576 rfl rfl) ?_
    refine Seg.step (pc' := 1579) (I_iload dL_law_1577 rfl) ?_
    refine Seg.step (pc' := 1580) (I_iconst dL_law_1579 ⟨by decide, by decide⟩) ?_
    refine Seg.step (pc' := 1581) (I_iadd dL_law_1580) ?_
    refine S_gd fun h299 => ?_
    refine Seg.step (pc' := 1582) (I_sld h299 dL_law_1581) ?_
    refine Seg.step (pc' := 1583) (I_aload_s (i := 0) dL_law_1582 rfl rfl) ?_
    refine Seg.step (pc' := 1585) (I_iload dL_law_1583 rfl) ?_
    refine Seg.step (pc' := 1586) (I_iconst dL_law_1585 ⟨by decide, by decide⟩) ?_
    refine Seg.step (pc' := 1587) (I_iadd dL_law_1586) ?_
    refine S_gd fun h300 => ?_
    refine Seg.step (pc' := 1588) (I_sld h300 dL_law_1587) ?_
    refine Seg.step (pc' := 1589) (I_aload_s (i := 0) dL_law_1588 rfl rfl) ?_
    refine Seg.step (pc' := 1591) (I_iload dL_law_1589 rfl) ?_
    refine Seg.step (pc' := 1592) (I_iconst dL_law_1591 ⟨by decide, by decide⟩) ?_
    refine Seg.step (pc' := 1593) (I_iadd dL_law_1592) ?_
    refine S_gd fun h301 => ?_
    refine Seg.step (pc' := 1594) (I_sld h301 dL_law_1593) ?_
    refine S_callV4 (md' := m_X11_chance) (fun y => some (iV y.1)) (fun y => (sh, false, R, y.2)) (hE _ _ sk_11) ⟨by decide, rfl⟩ mm_X11_chance wm_L_184 ⟨rfl, rfl, by decide, by decide, by first | (show 140 + 2 * (min (x1.1.toNat / 6) 512) + 0 ≤ 1166; omega) | (show 140 + 2 * (min (x1.1.toNat / 6) 512) + 2 ≤ 1166; omega), by first | (show 4222 + 16 * (min (x1.1.toNat / 6) 512) + 0 ≤ 12426; omega) | (show 4222 + 16 * (min (x1.1.toNat / 6) 512) + 16 ≤ 12426; omega)⟩ (Nat.le_of_ble_eq_true rfl) dL_law_1594 (fun y hy => c_X11_chance hE hL y hy) (fun x302 => ?_)
    refine Seg.step (pc' := 1598) (I_aload_n (i := 2) dL_law_1597 rfl rfl) ?_
    refine Seg.step (pc' := 1599) (I_aload_s (i := 0) dL_law_1598 rfl rfl) ?_
    refine Seg.step (pc' := 1601) (I_iload dL_law_1599 rfl) ?_
    refine Seg.step (pc' := 1602) (I_iconst dL_law_1601 ⟨by decide, by decide⟩) ?_
    refine Seg.step (pc' := 1603) (I_iadd dL_law_1602) ?_
    refine S_gd fun h303 => ?_
    refine Seg.step (pc' := 1604) (I_sld h303 dL_law_1603) ?_
    refine Seg.step (pc' := 1605) (I_aload_s (i := 0) dL_law_1604 rfl rfl) ?_
    refine Seg.step (pc' := 1607) (I_iload dL_law_1605 rfl) ?_
    refine Seg.step (pc' := 1608) (I_iconst dL_law_1607 ⟨by decide, by decide⟩) ?_
    refine Seg.step (pc' := 1609) (I_iadd dL_law_1608) ?_
    refine S_gd fun h304 => ?_
    refine Seg.step (pc' := 1610) (I_sld h304 dL_law_1609) ?_
    refine Seg.step (pc' := 1611) (I_aload_s (i := 0) dL_law_1610 rfl rfl) ?_
    refine Seg.step (pc' := 1613) (I_iload dL_law_1611 rfl) ?_
    refine Seg.step (pc' := 1614) (I_iconst dL_law_1613 ⟨by decide, by decide⟩) ?_
    refine Seg.step (pc' := 1615) (I_iadd dL_law_1614) ?_
    refine S_gd fun h305 => ?_
    refine Seg.step (pc' := 1616) (I_sld h305 dL_law_1615) ?_
    refine Seg.step (pc' := 1617) (I_aload_s (i := 0) dL_law_1616 rfl rfl) ?_
    refine Seg.step (pc' := 1619) (I_iload dL_law_1617 rfl) ?_
    refine Seg.step (pc' := 1620) (I_iconst dL_law_1619 ⟨by decide, by decide⟩) ?_
    refine Seg.step (pc' := 1621) (I_iadd dL_law_1620) ?_
    refine S_gd fun h306 => ?_
    refine Seg.step (pc' := 1622) (I_sld h306 dL_law_1621) ?_
    refine S_callV4 (md' := m_X12_chance) (fun y => some (iV y.1)) (fun y => (sh, false, R, y.2)) (hE _ _ sk_12) ⟨by decide, rfl⟩ mm_X12_chance wm_L_187 ⟨rfl, rfl, by decide, by decide, by first | (show 140 + 2 * (min (x1.1.toNat / 6) 512) + 0 ≤ 1166; omega) | (show 140 + 2 * (min (x1.1.toNat / 6) 512) + 2 ≤ 1166; omega), by first | (show 4222 + 16 * (min (x1.1.toNat / 6) 512) + 0 ≤ 12426; omega) | (show 4222 + 16 * (min (x1.1.toNat / 6) 512) + 16 ≤ 12426; omega)⟩ (Nat.le_of_ble_eq_true rfl) dL_law_1622 (fun y hy => c_X12_chance hE hL y hy) (fun x307 => ?_)
    refine S_icmp_eq (tgt := 1743) dL_law_1625 (by decide) (fun h308 => ?_) (fun h308 => ?_)
    · refine Seg.step (pc' := 1746) (I_iinc dL_law_1743 rfl (by decide) rfl) ?_
      refine Seg.step (pc' := 23) (I_goto (tgt := 23) dL_law_1746 (by decide)) ?_
      exact S_arr (fun K hK => GG.widen (by first | (show 140 + 2 * (min (x1.1.toNat / 6) 512) + 0 ≤ 140 + 2 * (min ((w32 (x1.1 + 6)).toNat / 6) 512); unfold w32 at *; omega) | (show 140 + 2 * (min (x1.1.toNat / 6) 512) + 2 ≤ 140 + 2 * (min ((w32 (x1.1 + 6)).toNat / 6) 512); unfold w32 at *; omega)) (by first | (show 4222 + 16 * (min (x1.1.toNat / 6) 512) + 0 ≤ 4222 + 16 * (min ((w32 (x1.1 + 6)).toNat / 6) 512); unfold w32 at *; omega) | (show 4222 + 16 * (min (x1.1.toNat / 6) 512) + 16 ≤ 4222 + 16 * (min ((w32 (x1.1 + 6)).toNat / 6) 512); unfold w32 at *; omega)) (GG.forget (Lle.ye (Lle.ye (Lle.ye (Lle.ye (Lle.ye (Lle.no (Lle.no (Lle.nil)))))))) hK))
    refine Seg.step (pc' := 1629) (I_iconst dL_law_1628 ⟨by decide, by decide⟩) ?_
    exact S_zret dL_law_1629 rfl (by decide) (by first | (show 140 + 2 * (min (x1.1.toNat / 6) 512) + 0 ≤ 1166; omega) | (show 140 + 2 * (min (x1.1.toNat / 6) 512) + 2 ≤ 1166; omega)) (by first | (show 4222 + 16 * (min (x1.1.toNat / 6) 512) + 0 ≤ 12426; omega) | (show 4222 + 16 * (min (x1.1.toNat / 6) 512) + 16 ≤ 12426; omega)) (fun K hK => hK)
  refine S_ite (fun h309 => ?_) (fun h309 => ?_)
  · refine Seg.step (I_tsw (v := 38) (off := 1590) (tgt := 1630) dL_law_40 h309 (by decide) rfl (by decide)) ?_
    refine Seg.step (pc' := 1631) (I_aload_n (i := 1) dL_law_1630 rfl rfl) ?_
    refine Seg.step (pc' := 1632) (I_aload_s (i := 0) dL_law_1631 rfl rfl) ?_
    refine Seg.step (pc' := 1634) (I_iload dL_law_1632 rfl) ?_
    refine Seg.step (pc' := 1635) (I_iconst dL_law_1634 ⟨by decide, by decide⟩) ?_
    refine Seg.step (pc' := 1636) (I_iadd dL_law_1635) ?_
    refine S_gd fun h310 => ?_
    refine Seg.step (pc' := 1637) (I_sld h310 dL_law_1636) ?_
    refine Seg.step (pc' := 1638) (I_aload_s (i := 0) dL_law_1637 rfl rfl) ?_
    refine Seg.step (pc' := 1640) (I_iload dL_law_1638 rfl) ?_
    refine Seg.step (pc' := 1641) (I_iconst dL_law_1640 ⟨by decide, by decide⟩) ?_
    refine Seg.step (pc' := 1642) (I_iadd dL_law_1641) ?_
    refine S_gd fun h311 => ?_
    refine Seg.step (pc' := 1643) (I_sld h311 dL_law_1642) ?_
    refine Seg.step (pc' := 1644) (I_aload_s (i := 0) dL_law_1643 rfl rfl) ?_
    refine Seg.step (pc' := 1646) (I_iload dL_law_1644 rfl) ?_
    refine Seg.step (pc' := 1647) (I_iconst dL_law_1646 ⟨by decide, by decide⟩) ?_
    refine Seg.step (pc' := 1648) (I_iadd dL_law_1647) ?_
    refine S_gd fun h312 => ?_
    refine Seg.step (pc' := 1649) (I_sld h312 dL_law_1648) ?_
    refine S_callV3 (md' := m_X11_tried) (fun y => some (iV y.1)) (fun y => (sh, false, R, y.2)) (hE _ _ sk_11) ⟨by decide, rfl⟩ mm_X11_tried wm_L_188 ⟨rfl, rfl, by decide, by decide, by first | (show 140 + 2 * (min (x1.1.toNat / 6) 512) + 0 ≤ 1166; omega) | (show 140 + 2 * (min (x1.1.toNat / 6) 512) + 2 ≤ 1166; omega), by first | (show 4222 + 16 * (min (x1.1.toNat / 6) 512) + 0 ≤ 12426; omega) | (show 4222 + 16 * (min (x1.1.toNat / 6) 512) + 16 ≤ 12426; omega)⟩ (Nat.le_of_ble_eq_true rfl) dL_law_1649 (fun y hy => c_X11_tried hE hL y hy) (fun x313 => ?_)
    refine Seg.step (pc' := 1653) (I_aload_n (i := 2) dL_law_1652 rfl rfl) ?_
    refine Seg.step (pc' := 1654) (I_aload_s (i := 0) dL_law_1653 rfl rfl) ?_
    refine Seg.step (pc' := 1656) (I_iload dL_law_1654 rfl) ?_
    refine Seg.step (pc' := 1657) (I_iconst dL_law_1656 ⟨by decide, by decide⟩) ?_
    refine Seg.step (pc' := 1658) (I_iadd dL_law_1657) ?_
    refine S_gd fun h314 => ?_
    refine Seg.step (pc' := 1659) (I_sld h314 dL_law_1658) ?_
    refine Seg.step (pc' := 1660) (I_aload_s (i := 0) dL_law_1659 rfl rfl) ?_
    refine Seg.step (pc' := 1662) (I_iload dL_law_1660 rfl) ?_
    refine Seg.step (pc' := 1663) (I_iconst dL_law_1662 ⟨by decide, by decide⟩) ?_
    refine Seg.step (pc' := 1664) (I_iadd dL_law_1663) ?_
    refine S_gd fun h315 => ?_
    refine Seg.step (pc' := 1665) (I_sld h315 dL_law_1664) ?_
    refine Seg.step (pc' := 1666) (I_aload_s (i := 0) dL_law_1665 rfl rfl) ?_
    refine Seg.step (pc' := 1668) (I_iload dL_law_1666 rfl) ?_
    refine Seg.step (pc' := 1669) (I_iconst dL_law_1668 ⟨by decide, by decide⟩) ?_
    refine Seg.step (pc' := 1670) (I_iadd dL_law_1669) ?_
    refine S_gd fun h316 => ?_
    refine Seg.step (pc' := 1671) (I_sld h316 dL_law_1670) ?_
    refine S_callV3 (md' := m_X12_tried) (fun y => some (iV y.1)) (fun y => (sh, false, R, y.2)) (hE _ _ sk_12) ⟨by decide, rfl⟩ mm_X12_tried wm_L_191 ⟨rfl, rfl, by decide, by decide, by first | (show 140 + 2 * (min (x1.1.toNat / 6) 512) + 0 ≤ 1166; omega) | (show 140 + 2 * (min (x1.1.toNat / 6) 512) + 2 ≤ 1166; omega), by first | (show 4222 + 16 * (min (x1.1.toNat / 6) 512) + 0 ≤ 12426; omega) | (show 4222 + 16 * (min (x1.1.toNat / 6) 512) + 16 ≤ 12426; omega)⟩ (Nat.le_of_ble_eq_true rfl) dL_law_1671 (fun y hy => c_X12_tried hE hL y hy) (fun x317 => ?_)
    refine S_icmp_eq (tgt := 1743) dL_law_1674 (by decide) (fun h318 => ?_) (fun h318 => ?_)
    · refine Seg.step (pc' := 1746) (I_iinc dL_law_1743 rfl (by decide) rfl) ?_
      refine Seg.step (pc' := 23) (I_goto (tgt := 23) dL_law_1746 (by decide)) ?_
      exact S_arr (fun K hK => GG.widen (by first | (show 140 + 2 * (min (x1.1.toNat / 6) 512) + 0 ≤ 140 + 2 * (min ((w32 (x1.1 + 6)).toNat / 6) 512); unfold w32 at *; omega) | (show 140 + 2 * (min (x1.1.toNat / 6) 512) + 2 ≤ 140 + 2 * (min ((w32 (x1.1 + 6)).toNat / 6) 512); unfold w32 at *; omega)) (by first | (show 4222 + 16 * (min (x1.1.toNat / 6) 512) + 0 ≤ 4222 + 16 * (min ((w32 (x1.1 + 6)).toNat / 6) 512); unfold w32 at *; omega) | (show 4222 + 16 * (min (x1.1.toNat / 6) 512) + 16 ≤ 4222 + 16 * (min ((w32 (x1.1 + 6)).toNat / 6) 512); unfold w32 at *; omega)) (GG.forget (Lle.ye (Lle.ye (Lle.ye (Lle.ye (Lle.ye (Lle.no (Lle.no (Lle.nil)))))))) hK))
    refine Seg.step (pc' := 1678) (I_iconst dL_law_1677 ⟨by decide, by decide⟩) ?_
    exact S_zret dL_law_1678 rfl (by decide) (by first | (show 140 + 2 * (min (x1.1.toNat / 6) 512) + 0 ≤ 1166; omega) | (show 140 + 2 * (min (x1.1.toNat / 6) 512) + 2 ≤ 1166; omega)) (by first | (show 4222 + 16 * (min (x1.1.toNat / 6) 512) + 0 ≤ 12426; omega) | (show 4222 + 16 * (min (x1.1.toNat / 6) 512) + 16 ≤ 12426; omega)) (fun K hK => hK)
  refine S_ite (fun h319 => ?_) (fun h319 => ?_)
  · refine Seg.step (I_tsw (v := 39) (off := 1639) (tgt := 1679) dL_law_40 h319 (by decide) rfl (by decide)) ?_
    refine Seg.step (pc' := 1680) (I_aload_n (i := 1) dL_law_1679 rfl rfl) ?_
    refine S_callV0 (md' := m_X11_undo) (fun y => some (iV y.1)) (fun y => (sh, false, R, y.2)) (hE _ _ sk_11) ⟨by decide, rfl⟩ mm_X11_undo wm_L_192 ⟨rfl, rfl, by decide, by decide, by first | (show 140 + 2 * (min (x1.1.toNat / 6) 512) + 0 ≤ 1166; omega) | (show 140 + 2 * (min (x1.1.toNat / 6) 512) + 2 ≤ 1166; omega), by first | (show 4222 + 16 * (min (x1.1.toNat / 6) 512) + 0 ≤ 12426; omega) | (show 4222 + 16 * (min (x1.1.toNat / 6) 512) + 16 ≤ 12426; omega)⟩ (Nat.le_of_ble_eq_true rfl) dL_law_1680 (fun y hy => c_X11_undo hE hL y hy) (fun x320 => ?_)
    refine Seg.step (pc' := 1684) (I_aload_n (i := 2) dL_law_1683 rfl rfl) ?_
    refine S_callV0 (md' := m_X12_undo) (fun y => some (iV y.1)) (fun y => (sh, false, R, y.2)) (hE _ _ sk_12) ⟨by decide, rfl⟩ mm_X12_undo wm_L_195 ⟨rfl, rfl, by decide, by decide, by first | (show 140 + 2 * (min (x1.1.toNat / 6) 512) + 0 ≤ 1166; omega) | (show 140 + 2 * (min (x1.1.toNat / 6) 512) + 2 ≤ 1166; omega), by first | (show 4222 + 16 * (min (x1.1.toNat / 6) 512) + 0 ≤ 12426; omega) | (show 4222 + 16 * (min (x1.1.toNat / 6) 512) + 16 ≤ 12426; omega)⟩ (Nat.le_of_ble_eq_true rfl) dL_law_1684 (fun y hy => c_X12_undo hE hL y hy) (fun x321 => ?_)
    refine S_icmp_eq (tgt := 1743) dL_law_1687 (by decide) (fun h322 => ?_) (fun h322 => ?_)
    · refine Seg.step (pc' := 1746) (I_iinc dL_law_1743 rfl (by decide) rfl) ?_
      refine Seg.step (pc' := 23) (I_goto (tgt := 23) dL_law_1746 (by decide)) ?_
      exact S_arr (fun K hK => GG.widen (by first | (show 140 + 2 * (min (x1.1.toNat / 6) 512) + 0 ≤ 140 + 2 * (min ((w32 (x1.1 + 6)).toNat / 6) 512); unfold w32 at *; omega) | (show 140 + 2 * (min (x1.1.toNat / 6) 512) + 2 ≤ 140 + 2 * (min ((w32 (x1.1 + 6)).toNat / 6) 512); unfold w32 at *; omega)) (by first | (show 4222 + 16 * (min (x1.1.toNat / 6) 512) + 0 ≤ 4222 + 16 * (min ((w32 (x1.1 + 6)).toNat / 6) 512); unfold w32 at *; omega) | (show 4222 + 16 * (min (x1.1.toNat / 6) 512) + 16 ≤ 4222 + 16 * (min ((w32 (x1.1 + 6)).toNat / 6) 512); unfold w32 at *; omega)) (GG.forget (Lle.ye (Lle.ye (Lle.ye (Lle.ye (Lle.ye (Lle.no (Lle.no (Lle.nil)))))))) hK))
    refine Seg.step (pc' := 1691) (I_iconst dL_law_1690 ⟨by decide, by decide⟩) ?_
    exact S_zret dL_law_1691 rfl (by decide) (by first | (show 140 + 2 * (min (x1.1.toNat / 6) 512) + 0 ≤ 1166; omega) | (show 140 + 2 * (min (x1.1.toNat / 6) 512) + 2 ≤ 1166; omega)) (by first | (show 4222 + 16 * (min (x1.1.toNat / 6) 512) + 0 ≤ 12426; omega) | (show 4222 + 16 * (min (x1.1.toNat / 6) 512) + 16 ≤ 12426; omega)) (fun K hK => hK)
  refine S_ite (fun h323 => ?_) (fun h323 => ?_)
  · refine Seg.step (I_tsw (v := 40) (off := 1652) (tgt := 1692) dL_law_40 h323 (by decide) rfl (by decide)) ?_
    refine Seg.step (pc' := 1693) (I_aload_n (i := 1) dL_law_1692 rfl rfl) ?_
    refine S_callV0 (md' := m_X11_keep) (fun y => some (iV y.1)) (fun y => (sh, false, R, y.2)) (hE _ _ sk_11) ⟨by decide, rfl⟩ mm_X11_keep wm_L_196 ⟨rfl, rfl, by decide, by decide, by first | (show 140 + 2 * (min (x1.1.toNat / 6) 512) + 0 ≤ 1166; omega) | (show 140 + 2 * (min (x1.1.toNat / 6) 512) + 2 ≤ 1166; omega), by first | (show 4222 + 16 * (min (x1.1.toNat / 6) 512) + 0 ≤ 12426; omega) | (show 4222 + 16 * (min (x1.1.toNat / 6) 512) + 16 ≤ 12426; omega)⟩ (Nat.le_of_ble_eq_true rfl) dL_law_1693 (fun y hy => c_X11_keep hE hL y hy) (fun x324 => ?_)
    refine Seg.step (pc' := 1697) (I_aload_n (i := 2) dL_law_1696 rfl rfl) ?_
    refine S_callV0 (md' := m_X12_keep) (fun y => some (iV y.1)) (fun y => (sh, false, R, y.2)) (hE _ _ sk_12) ⟨by decide, rfl⟩ mm_X12_keep wm_L_199 ⟨rfl, rfl, by decide, by decide, by first | (show 140 + 2 * (min (x1.1.toNat / 6) 512) + 0 ≤ 1166; omega) | (show 140 + 2 * (min (x1.1.toNat / 6) 512) + 2 ≤ 1166; omega), by first | (show 4222 + 16 * (min (x1.1.toNat / 6) 512) + 0 ≤ 12426; omega) | (show 4222 + 16 * (min (x1.1.toNat / 6) 512) + 16 ≤ 12426; omega)⟩ (Nat.le_of_ble_eq_true rfl) dL_law_1697 (fun y hy => c_X12_keep hE hL y hy) (fun x325 => ?_)
    refine S_icmp_eq (tgt := 1743) dL_law_1700 (by decide) (fun h326 => ?_) (fun h326 => ?_)
    · refine Seg.step (pc' := 1746) (I_iinc dL_law_1743 rfl (by decide) rfl) ?_
      refine Seg.step (pc' := 23) (I_goto (tgt := 23) dL_law_1746 (by decide)) ?_
      exact S_arr (fun K hK => GG.widen (by first | (show 140 + 2 * (min (x1.1.toNat / 6) 512) + 0 ≤ 140 + 2 * (min ((w32 (x1.1 + 6)).toNat / 6) 512); unfold w32 at *; omega) | (show 140 + 2 * (min (x1.1.toNat / 6) 512) + 2 ≤ 140 + 2 * (min ((w32 (x1.1 + 6)).toNat / 6) 512); unfold w32 at *; omega)) (by first | (show 4222 + 16 * (min (x1.1.toNat / 6) 512) + 0 ≤ 4222 + 16 * (min ((w32 (x1.1 + 6)).toNat / 6) 512); unfold w32 at *; omega) | (show 4222 + 16 * (min (x1.1.toNat / 6) 512) + 16 ≤ 4222 + 16 * (min ((w32 (x1.1 + 6)).toNat / 6) 512); unfold w32 at *; omega)) (GG.forget (Lle.ye (Lle.ye (Lle.ye (Lle.ye (Lle.ye (Lle.no (Lle.no (Lle.nil)))))))) hK))
    refine Seg.step (pc' := 1704) (I_iconst dL_law_1703 ⟨by decide, by decide⟩) ?_
    exact S_zret dL_law_1704 rfl (by decide) (by first | (show 140 + 2 * (min (x1.1.toNat / 6) 512) + 0 ≤ 1166; omega) | (show 140 + 2 * (min (x1.1.toNat / 6) 512) + 2 ≤ 1166; omega)) (by first | (show 4222 + 16 * (min (x1.1.toNat / 6) 512) + 0 ≤ 12426; omega) | (show 4222 + 16 * (min (x1.1.toNat / 6) 512) + 16 ≤ 12426; omega)) (fun K hK => hK)
  refine S_ite (fun h327 => ?_) (fun h327 => ?_)
  · refine Seg.step (I_tsw (v := 41) (off := 1665) (tgt := 1705) dL_law_40 h327 (by decide) rfl (by decide)) ?_
    refine Seg.step (pc' := 1706) (I_aload_n (i := 1) dL_law_1705 rfl rfl) ?_
    refine S_callV0 (md' := m_X11_back) (fun y => some (iV y.1)) (fun y => (sh, false, R, y.2)) (hE _ _ sk_11) ⟨by decide, rfl⟩ mm_X11_back wm_L_200 ⟨rfl, rfl, by decide, by decide, by first | (show 140 + 2 * (min (x1.1.toNat / 6) 512) + 0 ≤ 1166; omega) | (show 140 + 2 * (min (x1.1.toNat / 6) 512) + 2 ≤ 1166; omega), by first | (show 4222 + 16 * (min (x1.1.toNat / 6) 512) + 0 ≤ 12426; omega) | (show 4222 + 16 * (min (x1.1.toNat / 6) 512) + 16 ≤ 12426; omega)⟩ (Nat.le_of_ble_eq_true rfl) dL_law_1706 (fun y hy => c_X11_back hE hL y hy) (fun x328 => ?_)
    refine Seg.step (pc' := 1710) (I_aload_n (i := 2) dL_law_1709 rfl rfl) ?_
    refine S_callV0 (md' := m_X12_back) (fun y => some (iV y.1)) (fun y => (sh, false, R, y.2)) (hE _ _ sk_12) ⟨by decide, rfl⟩ mm_X12_back wm_L_203 ⟨rfl, rfl, by decide, by decide, by first | (show 140 + 2 * (min (x1.1.toNat / 6) 512) + 0 ≤ 1166; omega) | (show 140 + 2 * (min (x1.1.toNat / 6) 512) + 2 ≤ 1166; omega), by first | (show 4222 + 16 * (min (x1.1.toNat / 6) 512) + 0 ≤ 12426; omega) | (show 4222 + 16 * (min (x1.1.toNat / 6) 512) + 16 ≤ 12426; omega)⟩ (Nat.le_of_ble_eq_true rfl) dL_law_1710 (fun y hy => c_X12_back hE hL y hy) (fun x329 => ?_)
    refine S_icmp_eq (tgt := 1743) dL_law_1713 (by decide) (fun h330 => ?_) (fun h330 => ?_)
    · refine Seg.step (pc' := 1746) (I_iinc dL_law_1743 rfl (by decide) rfl) ?_
      refine Seg.step (pc' := 23) (I_goto (tgt := 23) dL_law_1746 (by decide)) ?_
      exact S_arr (fun K hK => GG.widen (by first | (show 140 + 2 * (min (x1.1.toNat / 6) 512) + 0 ≤ 140 + 2 * (min ((w32 (x1.1 + 6)).toNat / 6) 512); unfold w32 at *; omega) | (show 140 + 2 * (min (x1.1.toNat / 6) 512) + 2 ≤ 140 + 2 * (min ((w32 (x1.1 + 6)).toNat / 6) 512); unfold w32 at *; omega)) (by first | (show 4222 + 16 * (min (x1.1.toNat / 6) 512) + 0 ≤ 4222 + 16 * (min ((w32 (x1.1 + 6)).toNat / 6) 512); unfold w32 at *; omega) | (show 4222 + 16 * (min (x1.1.toNat / 6) 512) + 16 ≤ 4222 + 16 * (min ((w32 (x1.1 + 6)).toNat / 6) 512); unfold w32 at *; omega)) (GG.forget (Lle.ye (Lle.ye (Lle.ye (Lle.ye (Lle.ye (Lle.no (Lle.no (Lle.nil)))))))) hK))
    refine Seg.step (pc' := 1717) (I_iconst dL_law_1716 ⟨by decide, by decide⟩) ?_
    exact S_zret dL_law_1717 rfl (by decide) (by first | (show 140 + 2 * (min (x1.1.toNat / 6) 512) + 0 ≤ 1166; omega) | (show 140 + 2 * (min (x1.1.toNat / 6) 512) + 2 ≤ 1166; omega)) (by first | (show 4222 + 16 * (min (x1.1.toNat / 6) 512) + 0 ≤ 12426; omega) | (show 4222 + 16 * (min (x1.1.toNat / 6) 512) + 16 ≤ 12426; omega)) (fun K hK => hK)
  refine S_ite (fun h331 => ?_) (fun h331 => ?_)
  · refine Seg.step (I_tsw (v := 42) (off := 1678) (tgt := 1718) dL_law_40 h331 (by decide) rfl (by decide)) ?_
    refine Seg.step (pc' := 1719) (I_aload_n (i := 1) dL_law_1718 rfl rfl) ?_
    refine Seg.step (pc' := 1720) (I_aload_s (i := 0) dL_law_1719 rfl rfl) ?_
    refine Seg.step (pc' := 1722) (I_iload dL_law_1720 rfl) ?_
    refine Seg.step (pc' := 1723) (I_iconst dL_law_1722 ⟨by decide, by decide⟩) ?_
    refine Seg.step (pc' := 1724) (I_iadd dL_law_1723) ?_
    refine S_gd fun h332 => ?_
    refine Seg.step (pc' := 1725) (I_sld h332 dL_law_1724) ?_
    refine S_callV1 (md' := m_X11_count) (fun y => some (iV y)) (fun y => (sh, false, R, x1.2)) (hE _ _ sk_11) ⟨by decide, rfl⟩ mm_X11_count wm_L_204 ⟨rfl, rfl, by decide, by decide, by first | (show 140 + 2 * (min (x1.1.toNat / 6) 512) + 0 ≤ 1166; omega) | (show 140 + 2 * (min (x1.1.toNat / 6) 512) + 2 ≤ 1166; omega), by first | (show 4222 + 16 * (min (x1.1.toNat / 6) 512) + 0 ≤ 12426; omega) | (show 4222 + 16 * (min (x1.1.toNat / 6) 512) + 16 ≤ 12426; omega)⟩ (Nat.le_of_ble_eq_true rfl) dL_law_1725 (fun y hy => c_X11_count hE hL y hy) (fun x333 => ?_)
    refine Seg.step (pc' := 1729) (I_aload_n (i := 2) dL_law_1728 rfl rfl) ?_
    refine Seg.step (pc' := 1730) (I_aload_s (i := 0) dL_law_1729 rfl rfl) ?_
    refine Seg.step (pc' := 1732) (I_iload dL_law_1730 rfl) ?_
    refine Seg.step (pc' := 1733) (I_iconst dL_law_1732 ⟨by decide, by decide⟩) ?_
    refine Seg.step (pc' := 1734) (I_iadd dL_law_1733) ?_
    refine S_gd fun h334 => ?_
    refine Seg.step (pc' := 1735) (I_sld h334 dL_law_1734) ?_
    refine S_callV1 (md' := m_X12_count) (fun y => some (iV y.1)) (fun y => (sh, false, R, y.2)) (hE _ _ sk_12) ⟨by decide, rfl⟩ mm_X12_count wm_L_207 ⟨rfl, rfl, by decide, by decide, by first | (show 140 + 2 * (min (x1.1.toNat / 6) 512) + 0 ≤ 1166; omega) | (show 140 + 2 * (min (x1.1.toNat / 6) 512) + 2 ≤ 1166; omega), by first | (show 4222 + 16 * (min (x1.1.toNat / 6) 512) + 0 ≤ 12426; omega) | (show 4222 + 16 * (min (x1.1.toNat / 6) 512) + 16 ≤ 12426; omega)⟩ (Nat.le_of_ble_eq_true rfl) dL_law_1735 (fun y hy => c_X12_count hE hL y hy) (fun x335 => ?_)
    refine S_icmp_eq (tgt := 1743) dL_law_1738 (by decide) (fun h336 => ?_) (fun h336 => ?_)
    · refine Seg.step (pc' := 1746) (I_iinc dL_law_1743 rfl (by decide) rfl) ?_
      refine Seg.step (pc' := 23) (I_goto (tgt := 23) dL_law_1746 (by decide)) ?_
      exact S_arr (fun K hK => GG.widen (by first | (show 140 + 2 * (min (x1.1.toNat / 6) 512) + 0 ≤ 140 + 2 * (min ((w32 (x1.1 + 6)).toNat / 6) 512); unfold w32 at *; omega) | (show 140 + 2 * (min (x1.1.toNat / 6) 512) + 2 ≤ 140 + 2 * (min ((w32 (x1.1 + 6)).toNat / 6) 512); unfold w32 at *; omega)) (by first | (show 4222 + 16 * (min (x1.1.toNat / 6) 512) + 0 ≤ 4222 + 16 * (min ((w32 (x1.1 + 6)).toNat / 6) 512); unfold w32 at *; omega) | (show 4222 + 16 * (min (x1.1.toNat / 6) 512) + 16 ≤ 4222 + 16 * (min ((w32 (x1.1 + 6)).toNat / 6) 512); unfold w32 at *; omega)) (GG.forget (Lle.ye (Lle.ye (Lle.ye (Lle.ye (Lle.ye (Lle.no (Lle.no (Lle.nil)))))))) hK))
    refine Seg.step (pc' := 1742) (I_iconst dL_law_1741 ⟨by decide, by decide⟩) ?_
    exact S_zret dL_law_1742 rfl (by decide) (by first | (show 140 + 2 * (min (x1.1.toNat / 6) 512) + 0 ≤ 1166; omega) | (show 140 + 2 * (min (x1.1.toNat / 6) 512) + 2 ≤ 1166; omega)) (by first | (show 4222 + 16 * (min (x1.1.toNat / 6) 512) + 0 ≤ 12426; omega) | (show 4222 + 16 * (min (x1.1.toNat / 6) 512) + 16 ≤ 12426; omega)) (fun K hK => hK)
  refine Seg.step (I_tswd (tgt := 1743) dL_law_40 (by omega) (by decide)) ?_
  refine Seg.step (pc' := 1746) (I_iinc dL_law_1743 rfl (by decide) rfl) ?_
  refine Seg.step (pc' := 23) (I_goto (tgt := 23) dL_law_1746 (by decide)) ?_
  exact S_arr (fun K hK => GG.widen (by first | (show 140 + 2 * (min (x1.1.toNat / 6) 512) + 0 ≤ 140 + 2 * (min ((w32 (x1.1 + 6)).toNat / 6) 512); unfold w32 at *; omega) | (show 140 + 2 * (min (x1.1.toNat / 6) 512) + 2 ≤ 140 + 2 * (min ((w32 (x1.1 + 6)).toNat / 6) 512); unfold w32 at *; omega)) (by first | (show 4222 + 16 * (min (x1.1.toNat / 6) 512) + 0 ≤ 4222 + 16 * (min ((w32 (x1.1 + 6)).toNat / 6) 512); unfold w32 at *; omega) | (show 4222 + 16 * (min (x1.1.toNat / 6) 512) + 16 ≤ 4222 + 16 * (min ((w32 (x1.1 + 6)).toNat / 6) 512); unfold w32 at *; omega)) (GG.forget (Lle.ye (Lle.ye (Lle.ye (Lle.ye (Lle.ye (Lle.no (Lle.no (Lle.nil)))))))) hK))

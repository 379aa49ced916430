def TT (n : Nat) : List (Nat × Nat) := SH0.take n
def RT : List (Nat × Nat × Nat) → RM
  | [] => fun _ _ => none
  | q :: l => upR (RT l) q.1 q.2.1 (some q.2.2)
def Zf (M : MM) (n : Nat) : Prop := ∀ a, n ≤ a → ∀ j, M a j = 0
theorem Zf.up {M : MM} {n a j : Nat} {v : Int} (h : Zf M n) (ha : a < n) : Zf (upM M a j v) n := fun x hx i => by
  rw [upM_ne x i (fun z => by omega)]
  exact h x hx i
theorem Zf.mono {M : MM} {n m : Nat} (h : Zf M n) (hm : n ≤ m) : Zf M m := fun x hx i => h x (Nat.le_trans hm hx) i
section INI
variable {E : EE} {md : MD} {mc ms : Nat} {pc : Nat} {L : List (Option CV)} {S : List CV} {k n : Nat} {R : RM} {M : MM}
theorem clM_id {a : Nat} (h : Zf M a) : clM M a = M := by
  funext x j
  unfold clM
  split
  · rename_i e; subst e; exact (h x (Nat.le_refl _) j).symm
  · rfl
theorem clR_id {a : Nat} (h : ∀ j, R a j = none) : clR R a = R := by
  funext x j
  unfold clR
  split
  · rename_i e; subst e; exact (h j).symm
  · rfl
theorem I_newaT {q N a : Nat} {atype : ArrayType} (hT : TT (a + 1) = TT a ++ [(q, N)]) (hl : (TT a).length = a) (hz : Zf M a) (hr : ∀ j, R a j = none) (hq : q = 50 ∨ q = 51 ∨ q = 52 ∨ q = 53) (hty : newarray.typeOf atype = tyA q) (hN : N < 2147483648) (hw : Cond.arrayClass (newarray.typeOf atype) ∈ TS) (hby : N * componentBytes (newarray.typeOf atype) ≤ 536870912) (hc : k + 1 ≤ md.2.2.2.2.cells) (hs : n + N ≤ md.2.2.2.2.slots) (hd : decode md.2.1 pc = .ok (.newarray atype, 2)) :
    Sp E md mc ms pc L (iV (N : Int) :: S) (TT a, true, R, M) k n (pc + 2) L (rV a :: S) (TT (a + 1), true, R, M) (k + 1) (n + N) := by
  have h := I_newa (E := E) (md := md) (mc := mc) (ms := ms) (pc := pc) (L := L) (S := S) (k := k) (n := n) (sh := TT a) (R := R) (M := M) hq hty hN hw hby hc hs hd
  rw [hl, clM_id hz, clR_id hr, ← hT] at h
  exact h
theorem I_newT {ci N idx a : Nat} {C : String} {T : u_T} (hT : TT (a + 1) = TT a ++ [(ci, N)]) (hl : (TT a).length = a) (hz : Zf M a) (hr : ∀ j, R a j = none) (hc : Cls ci C T N) (hdf : ∀ j, j < N → dfl (tyF ci j) = true) (hcl : Cond.classLink md.1.cls idx C ∈ TS) (hins : Cond.instantiable C N ∈ TS) (hini : Cond.initialized C ∈ TS) (hce : k + 1 ≤ md.2.2.2.2.cells) (hsl : n + N ≤ md.2.2.2.2.slots) (hd : decode md.2.1 pc = .ok (.new idx, 3)) :
    Sp E md mc ms pc L S (TT a, true, R, M) k n (pc + 3) L (rV a :: S) (TT (a + 1), true, R, M) (k + 1) (n + N) := by
  have h := I_new (E := E) (md := md) (mc := mc) (ms := ms) (pc := pc) (L := L) (S := S) (k := k) (n := n) (sh := TT a) (R := R) (M := M) hc hdf hcl hins hini hce hsl hd
  rw [hl, clM_id hz, clR_id hr, ← hT] at h
  exact h
end INI

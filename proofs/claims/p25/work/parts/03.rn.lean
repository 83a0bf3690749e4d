/-! What a run comes to, read backwards: Rn (from a frame), Rf (from an end, with the frames below). out: what is to hold of the end. -/
abbrev oP : Type := ou → Prop
def Ev (F : Nat → Option ou) (o : oP) : Prop := ∃ k0 x, o x ∧ ∀ k, k0 ≤ k → F k = some x
def Rn (m pc : Nat) (ls : lo) (st : List av) (fs : List fr) (I : IT) (C : CT) (n c z : Nat) (out : oP) : Prop := Ev (fun k => run k m pc ls st fs I C n c z) out
def Rf (o : Option av ⊕ Nat) (fs : List fr) (I : IT) (C : CT) (n c z : Nat) (out : oP) : Prop := Ev (fun k => fin (run k) o fs I C n c z) out
theorem Ev.it {p : Prop} {d : Decidable p} {F G : Nat → Option ou} {o : oP} (h1 : p → Ev F o) (h2 : ¬ p → Ev G o) : Ev (fun k => @ite _ p d (F k) (G k)) o := by
  by_cases hp : p
  · simp only [if_pos hp]; exact h1 hp
  · simp only [if_neg hp]; exact h2 hp
theorem Rn.sh {m pc : Nat} {ls : lo} {st : List av} {fs : List fr} {I : IT} {C : CT} {n c z : Nat} {out : oP} (j : Nat) {F : Nat → Option ou} (h : ∀ k, run (k + j) m pc ls st fs I C n c z = F k) (hF : Ev F out) : Rn m pc ls st fs I C n c z out := by
  obtain ⟨k0, x, hx, hF⟩ := hF
  refine ⟨k0 + j, x, hx, fun k hk => ?_⟩
  have e := h (k - j)
  rw [Nat.sub_add_cancel (by omega)] at e
  exact e.trans (hF _ (by omega))
/-- the end of a run -/
theorem Rf_end {o : Option av ⊕ Nat} {I : IT} {C : CT} {n c z : Nat} {out : oP} (h : out (o, I, C, n, c, z)) : Rf o [] I C n c z out := ⟨0, _, h, fun _ _ => rfl⟩
/-- the references that no run changes behind the making of the objects; cc: the calls of the cars -/
def Cs (cc : Nat → Option Nat) : CT := fun f i j => match f with
  | 0 => (match j with | 0 => some (1, 0) | 1 => some (3, 0) | 2 => some (16, 0) | 3 => some (21, 0) | _ => none)
  | 1 => (match j with | 2 => some (2, 0) | _ => none)
  | 3 => (match j with | 1 => some (4, 0) | 2 => some (5, 0) | 3 => some (5, 1) | 4 => some (6, 0) | 6 => some (7, 0) | 7 => some (8, 0) | 8 => some (9, 0) | _ => none)
  | 4 => some (10, j)
  | 5 => some (14, 12 * i + j)
  | 10 => (match j with | 1 => some (11, i) | 2 => some (12, i) | 3 => some (13, i) | _ => none)
  | 14 => (match j with | 1 => some (15, i) | _ => none)
  | 16 => (match j with | 2 => some (17, 0) | 3 => some (18, 0) | _ => none)
  | 17 => some (19, j)
  | 18 => some (20, j)
  | 19 => (match j with | 1 => Option.map (fun q => (20, q)) (cc i) | _ => none)
  | 21 => (match j with | 2 => some (22, 0) | 3 => some (23, 0) | _ => none)
  | 22 => some (24, j)
  | 23 => some (26, j)
  | 24 => (match j with | 1 => some (25, i) | _ => none)
  | 27 => (match j with | 3 => some (28, 0) | 5 => some (29, 0) | 6 => some (30, 0) | 7 => some (31, 0) | 8 => some (32, 0) | 10 => some (33, 0) | 11 => some (34, 0) | 12 => some (35, 0) | 13 => some (36, 0) | 15 => some (37, 0) | 16 => some (38, 0) | 17 => some (39, 0) | 19 => some (40, 0) | 20 => some (41, 0) | 21 => some (42, 0) | 22 => some (43, 0) | 23 => some (44, 0) | 24 => some (45, 0) | 25 => some (46, 0) | 26 => some (47, 0) | 28 => some (48, 0) | 29 => some (49, 0) | 31 => some (50, 0) | 32 => some (51, 0) | 33 => some (52, 0) | 34 => some (53, 0) | 35 => some (54, 0) | 36 => some (55, 0) | 37 => some (56, 0) | 38 => some (57, 0) | 39 => some (58, 0) | _ => none)
  | _ => none

/-! What a run comes to, read backwards: Rn (from a frame), Rf (from an end, with the frames below). out: what is to hold of the end. -/
abbrev oP : Type := ou → Prop
def Ev (F : Nat → Option ou) (o : oP) : Prop := ∃ k0 x, o x ∧ ∀ k, k0 ≤ k → F k = some x
def Rn (m pc : Nat) (ls : lo) (st : List av) (fs : List fr) (I : IT) (C : CT) (n c z : Nat) (out : oP) : Prop := Ev (fun k => run k m pc ls st fs I C n c z) out
def Rf (o : Option av ⊕ Nat) (fs : List fr) (I : IT) (C : CT) (n c z : Nat) (out : oP) : Prop := Ev (fun k => fin (run k) o fs I C n c z) out
theorem Ev.it {p : Prop} {d : Decidable p} {F G : Nat → Option ou} {o : oP} (h1 : p → Ev F o) (h2 : ¬ p → Ev G o) : Ev (fun k => @ite _ p d (F k) (G k)) o := by
  by_cases hp : p
  · simp only [if_pos hp]; exact h1 hp
  · simp only [if_neg hp]; exact h2 hp
theorem Rn.sh {m pc : Nat} {ls : lo} {st : List av} {fs : List fr} {I : IT} {C : CT} {n c z : Nat} {out : oP} (j : Nat) {F : Nat → Option ou} (h : ∀ k, run (k + j) m pc ls st fs I C n c z = F k) (hF : Ev F out) : Rn m pc ls st fs I C n c z out := by
  obtain ⟨k0, x, hx, hF⟩ := hF
  refine ⟨k0 + j, x, hx, fun k hk => ?_⟩
  have e := h (k - j)
  rw [Nat.sub_add_cancel (by omega)] at e
  exact e.trans (hF _ (by omega))
/-- the end of a run -/
theorem Rf_end {o : Option av ⊕ Nat} {I : IT} {C : CT} {n c z : Nat} {out : oP} (h : out (o, I, C, n, c, z)) : Rf o [] I C n c z out := ⟨0, _, h, fun _ _ => rfl⟩

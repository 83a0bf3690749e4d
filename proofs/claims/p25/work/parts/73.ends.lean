/-! The claim: the law's run on the machine; behind it the skeleton's rows, a starting text of the kit, with two facts more at the entry. -/
theorem FE_end {s t : State} {o : Outcome} {L : List Loc} {k n k2 n2 : Nat} (h : FrameEnd s o t L k n) (hL : ∀ q ∈ L, s.heap.size ≤ q.base) (h1 : k ≤ k2) (h2 : n ≤ n2) : Framed s o t [] k2 n2 :=
  ⟨h.1, h.2.1, h.2.2.weaken (fun x hx hlt => absurd hlt (Nat.not_lt.mpr (hL x hx))) h1 h2⟩
theorem str_ok {own tx : String} {k : Nat} {A : Array Value} {U : State} (h : (Cond.stringRef own k tx).before A U = true) : ∃ a : Nat, vk_R own k tx a U := by
  have h9 := h
  simp only [Cond.before, Cond.holds, Cond.value] at h9
  cases hf : U.vm.findClass own with
  | none => simp [hf] at h9
  | some cur =>
    cases hr : U.resolvedAt? own k with
    | none => simp [hf, hr] at h9
    | some r =>
      cases r with
      | string a =>
        refine ⟨a, ?_, ?_⟩
        · simpa only [Cond.before, Cond.holds, Cond.value] using h
        · simp only [State.resolvedAt?, hf] at hr
          cases hk : U.vm.classes[cur]? with
          | none => simp [hk] at hr
          | some k2 => simp [Term.eval, hf, hk]; simp [hk] at hr; simp [hr]
      | _ => simp [hf, hr] at h9

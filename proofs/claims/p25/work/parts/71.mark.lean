/-! The marked places' rules. -/
/-- at a marked place all that was made is let go of -/
theorem Rn.mone {m pc : Nat} {ls : lo} {fs : List fr} {I : IT} {C : CT} {n c z : Nat} {out : oP} {e : ent} (hc : cd m pc = none) (hm : mkd m pc = some e) {F : Nat → Option ou} (h : ∀ k, stp e pc (kls ls) [] (IZ I) CZ 0 c z (fun pc' ls' st' I' C' n' c' z' => run k m pc' ls' st' fs I' C' n' c' z') (fun y as r => run k y 0 (ini y as) [] ((m, pc, kls ls, r) :: fs) (IZ I) CZ 0 c z) (fun v => fin (run k) (Sum.inl v) fs (IZ I) CZ 0 c z) (fun E c' z' => fin (run k) (Sum.inr E) fs (IZ I) CZ 0 c' z') none = F k) (hF : Ev F out) : Rn m pc ls [] fs I C n c z out := by
  refine Rn.sh 1 (F := F) (fun k => ?_) hF
  rw [← h k]
  show (match cd m pc with | none => (match mkd m pc with | none => none | some e => _) | some e => _) = _
  rw [hc]
  dsimp only
  rw [hm]
  rfl
theorem Rn.mnew {m pc : Nat} {ls : lo} {fs : List fr} {I : IT} {C : CT} {n c z : Nat} {out : oP} {j len b pc2 : Nat} {ls2 : lo} (hc : cd m pc = none) (hm : mkd m pc = some (.new j, len, 10, b, 0)) (hp : pc + len = pc2) (hl : kls ls = ls2) (h : Rn m pc2 ls2 [vr 0 0] fs (IZ I) CZ 1 (c + 1) (z + 5) out) : Rn m pc ls [] fs I C n c z out := by
  subst hp
  subst hl
  exact Rn.mone hc hm (F := fun k => run k m (pc + len) (kls ls) [vr 0 0] fs (IZ I) CZ 1 (c + 1) (z + 5)) (fun _ => rfl) h
theorem Rn.mstat {m pc : Nat} {ls : lo} {fs : List fr} {I : IT} {C : CT} {n c z : Nat} {out : oP} {j len a : Nat} {ls2 ls3 : lo} (hc : cd m pc = none) (hm : mkd m pc = some (.invokestatic j, len, a, 0, 0)) (hl : kls ls = ls2) (hi : ini a [] = ls3) (h : Rn a 0 ls3 [] ((m, pc, ls2, []) :: fs) (IZ I) CZ 0 c z out) : Rn m pc ls [] fs I C n c z out := by
  subst hl
  subst hi
  exact Rn.mone hc hm (F := fun k => run k a 0 (ini a []) [] ((m, pc, kls ls, []) :: fs) (IZ I) CZ 0 c z) (fun _ => rfl) h

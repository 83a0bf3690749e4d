theorem okAll : ∀ (m : Nat) (q : mI) (pc : Nat) (e : ent), MT[m]? = some q → cd m pc = some e → ∃ w, okE m q pc e w = true := sorry
theorem okAall : ∀ (m pc : Nat) (e : ent), cd m pc = some e → okA e := sorry

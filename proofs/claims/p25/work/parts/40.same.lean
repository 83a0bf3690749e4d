theorem k45_65 {fs : List fr} {I : IT} {cc : Nat → Option Nat} {n c z : Nat} {out : oP} {x : Int} {y : Int} {a : Int} {b : Int} {k : Int} (h : ((k < 30) → ((0 ≤ k ∧ k < 30) ∧ ((((I 36 0 (Int.toNat k)) = b) → (Rn 45 65 [some (vr 27 0), some (vi x), some (vi y), some (vi a), some (vi b), some (vi (wr (k + 1)))] [] (fs) (up3 I 36 0 (Int.toNat k) a) (Cs cc) n c z out)) ∧ (¬ ((I 36 0 (Int.toNat k)) = b) → (Rn 45 65 [some (vr 27 0), some (vi x), some (vi y), some (vi a), some (vi b), some (vi (wr (k + 1)))] [] (fs) (up3 I 36 0 (Int.toNat k) (I 36 0 (Int.toNat k))) (Cs cc) n c z out))))) ∧ (¬ (k < 30) → (Rf (Sum.inl (some (vi 1))) fs I (Cs cc) n c z out))) : Rn 45 65 [some (vr 27 0), some (vi x), some (vi y), some (vi a), some (vi b), some (vi k)] [] (fs) I (Cs cc) n c z out :=
  (Rn.iload (pc2 := 67) rfl rfl rfl (Rn.bipush (pc2 := 69) rfl rfl (Rn.ic_ge (pc2 := 72) rfl rfl (fun q18 => (Rn.aload_n (pc2 := 73) rfl rfl rfl (Rn.getR (pc2 := 76) (q := (some (36, 0))) rfl rfl rfl rfl rfl (Rn.iload (pc2 := 78) rfl rfl rfl (Rn.aload_n (pc2 := 79) rfl rfl rfl (Rn.getR (pc2 := 82) (q := (some (36, 0))) rfl rfl rfl rfl rfl (Rn.iload (pc2 := 84) rfl rfl rfl (Rn.iald (pc2 := 85) (L := 30) rfl rfl rfl (h.1 q18).1 rfl (Rn.iload (pc2 := 87) rfl rfl rfl (Rn.ic_ne (pc2 := 90) rfl rfl (fun q19 => (Rn.iload_n (pc2 := 91) rfl rfl rfl (Rn.goto rfl (Rn.iast (pc2 := 102) (L := 30) rfl rfl rfl (h.1 q18).1 rfl (Rn.iinc (pc2 := 105) (ls2 := [some (vr 27 0), some (vi x), some (vi y), some (vi a), some (vi b), some (vi (wr (k + 1)))]) rfl rfl rfl rfl (Rn.goto rfl ((h.1 q18).2.1 q19))))))) (fun q19 => (Rn.aload_n (pc2 := 95) rfl rfl rfl (Rn.getR (pc2 := 98) (q := (some (36, 0))) rfl rfl rfl rfl rfl (Rn.iload (pc2 := 100) rfl rfl rfl (Rn.iald (pc2 := 101) (L := 30) rfl rfl rfl (h.1 q18).1 rfl (Rn.iast (pc2 := 102) (L := 30) rfl rfl rfl (h.1 q18).1 rfl (Rn.iinc (pc2 := 105) (ls2 := [some (vr 27 0), some (vi x), some (vi y), some (vi a), some (vi b), some (vi (wr (k + 1)))]) rfl rfl rfl rfl (Rn.goto rfl ((h.1 q18).2.2 q19))))))))))))))))))) (fun q18 => (Rn.iconst (pc2 := 109) rfl rfl (Rn.zret rfl rfl (by decide) (h.2 q18)))))))

theorem k99_47 {fs : List fr} {I : IT} {cc : Nat → Option Nat} {n c z : Nat} {out : oP} {x : Int} {y : Int} {a : Int} {b : Int} {k : Int} (h : ((k < 30) → ((0 ≤ k ∧ k < 30) ∧ ((((I 6 0 (Int.toNat k)) = b) → (Rn 99 47 [some (vr 3 0), some (vi x), some (vi y), some (vi a), some (vi b), some (vi (wr (k + 1)))] [] (fs) (up3 I 6 0 (Int.toNat k) a) (Cs cc) n c z out)) ∧ (¬ ((I 6 0 (Int.toNat k)) = b) → (Rn 99 47 [some (vr 3 0), some (vi x), some (vi y), some (vi a), some (vi b), some (vi (wr (k + 1)))] [] (fs) I (Cs cc) n c z out))))) ∧ (¬ (k < 30) → (Rf (Sum.inl (some (vi 1))) fs I (Cs cc) n c z out))) : Rn 99 47 [some (vr 3 0), some (vi x), some (vi y), some (vi a), some (vi b), some (vi k)] [] (fs) I (Cs cc) n c z out :=
  (Rn.iload (pc2 := 49) rfl rfl rfl (Rn.bipush (pc2 := 51) rfl rfl (Rn.ic_ge (pc2 := 54) rfl rfl (fun q20 => (Rn.aload_n (pc2 := 55) rfl rfl rfl (Rn.getR (pc2 := 58) (q := (some (6, 0))) rfl rfl rfl rfl rfl (Rn.iload (pc2 := 60) rfl rfl rfl (Rn.iald (pc2 := 61) (L := 30) rfl rfl rfl (h.1 q20).1 rfl (Rn.iload (pc2 := 63) rfl rfl rfl (Rn.ic_ne (pc2 := 66) rfl rfl (fun q21 => (Rn.aload_n (pc2 := 67) rfl rfl rfl (Rn.getR (pc2 := 70) (q := (some (6, 0))) rfl rfl rfl rfl rfl (Rn.iload (pc2 := 72) rfl rfl rfl (Rn.iload_n (pc2 := 73) rfl rfl rfl (Rn.iast (pc2 := 74) (L := 30) rfl rfl rfl (h.1 q20).1 rfl (Rn.iinc (pc2 := 77) (ls2 := [some (vr 3 0), some (vi x), some (vi y), some (vi a), some (vi b), some (vi (wr (k + 1)))]) rfl rfl rfl rfl (Rn.goto rfl ((h.1 q20).2.1 q21))))))))) (fun q21 => (Rn.iinc (pc2 := 77) (ls2 := [some (vr 3 0), some (vi x), some (vi y), some (vi a), some (vi b), some (vi (wr (k + 1)))]) rfl rfl rfl rfl (Rn.goto rfl ((h.1 q20).2.2 q21))))))))))) (fun q20 => (Rn.iconst (pc2 := 81) rfl rfl (Rn.zret rfl rfl (by decide) (h.2 q20)))))))

def un (S : IT) (fam : Nat) (a b : Int) (k : Nat) : IT := fun f i j => if f = fam ∧ i = 0 ∧ j < k ∧ S fam 0 j = b then a else S f i j
theorem un_no {S : IT} {fam : Nat} {a b : Int} {k f i j : Nat} (h : ¬ f = fam) : un S fam a b k f i j = S f i j := if_neg (fun g => h g.1)
theorem un_at {S : IT} {fam : Nat} {a b : Int} {k j : Nat} : un S fam a b k fam 0 j = if j < k ∧ S fam 0 j = b then a else S fam 0 j := by
  show (if _ then _ else _) = _
  by_cases h : j < k ∧ S fam 0 j = b
  · rw [if_pos ⟨rfl, rfl, h.1, h.2⟩, if_pos h]
  · rw [if_neg (fun g => h g.2.2), if_neg h]
theorem un_up {S : IT} {fam : Nat} {a b : Int} {k : Nat} (h : S fam 0 k = b) : up3 (un S fam a b k) fam 0 k a = un S fam a b (k + 1) := by
  funext f i j
  by_cases g : f = fam ∧ i = 0 ∧ j = k
  · obtain ⟨rfl, rfl, rfl⟩ := g
    rw [up3_eq, un_at, if_pos ⟨by omega, h⟩]
  · rw [up3_no g]
    show (if _ then _ else _) = (if _ then _ else _)
    by_cases q : f = fam ∧ i = 0 ∧ j < k ∧ S fam 0 j = b
    · rw [if_pos q, if_pos ⟨q.1, q.2.1, by omega, q.2.2.2⟩]
    · rw [if_neg q, if_neg (fun y => q ⟨y.1, y.2.1, by
        have : ¬ j = k := fun w => g ⟨y.1, y.2.1, w⟩
        omega, y.2.2.2⟩)]
theorem un_st {S : IT} {fam : Nat} {a b : Int} {k : Nat} (h : ¬ S fam 0 k = b) : un S fam a b k = un S fam a b (k + 1) := by
  funext f i j
  show (if _ then _ else _) = (if _ then _ else _)
  by_cases q : f = fam ∧ i = 0 ∧ j < k ∧ S fam 0 j = b
  · rw [if_pos q, if_pos ⟨q.1, q.2.1, by omega, q.2.2.2⟩]
  · rw [if_neg q, if_neg (fun y => q ⟨y.1, y.2.1, by
      have : ¬ j = k := fun w => h (by rw [← w]; exact y.2.2.2)
      omega, y.2.2.2⟩)]
theorem up3_self {F : IT} {f i j : Nat} : up3 F f i j (F f i j) = F := by
  funext a b c
  by_cases q : a = f ∧ b = i ∧ c = j
  · obtain ⟨rfl, rfl, rfl⟩ := q; rw [up3_eq]
  · rw [up3_no q]
theorem m_same_l {fs : List fr} {I : IT} {cc : Nat → Option Nat} {n c z : Nat} {out : oP} {x y a b : Int} (h : Rf (Sum.inl (some (vi 1))) fs (un I 36 a b 30) (Cs cc) n c z out) : ∀ d k : Nat, k + d = 30 → Rn 45 65 [some (vr 27 0), some (vi x), some (vi y), some (vi a), some (vi b), some (vi (k : Int))] [] fs (un I 36 a b k) (Cs cc) n c z out := by
  intro d
  induction d with
  | zero =>
    intro k hk
    refine k45_65 ⟨fun h1 => by omega, fun h1 => ?_⟩
    rw [show k = 30 by omega]; exact h
  | succ d ih =>
    intro k hk
    have nx := ih (k + 1) (by omega)
    have e : un I 36 a b k 36 0 k = I 36 0 k := by rw [un_at, if_neg (by omega)]
    refine k45_65 ⟨fun h1 => ?_, fun h1 => by omega⟩
    rw [Int.toNat_natCast, wrI (by omega) (by omega), nS]
    refine ⟨by omega, fun h2 => ?_, fun h2 => ?_⟩
    · rw [e] at h2; rw [un_up h2]; exact nx
    · rw [up3_self]; rw [e] at h2; rw [un_st h2]; exact nx
theorem c_same_l {fs : List fr} {I : IT} {cc : Nat → Option Nat} {n c z : Nat} {out : oP} {x y a b : Int} (h : Rf (Sum.inl (some (vi 1))) fs (un I 6 a b 30) (Cs cc) n c z out) : ∀ d k : Nat, k + d = 30 → Rn 99 47 [some (vr 3 0), some (vi x), some (vi y), some (vi a), some (vi b), some (vi (k : Int))] [] fs (un I 6 a b k) (Cs cc) n c z out := by
  intro d
  induction d with
  | zero =>
    intro k hk
    refine k99_47 ⟨fun h1 => by omega, fun h1 => ?_⟩
    rw [show k = 30 by omega]; exact h
  | succ d ih =>
    intro k hk
    have nx := ih (k + 1) (by omega)
    have e : un I 6 a b k 6 0 k = I 6 0 k := by rw [un_at, if_neg (by omega)]
    refine k99_47 ⟨fun h1 => ?_, fun h1 => by omega⟩
    rw [Int.toNat_natCast, wrI (by omega) (by omega), nS]
    refine ⟨by omega, fun h2 => ?_, fun h2 => ?_⟩
    · rw [e] at h2; rw [un_up h2]; exact nx
    · rw [e] at h2; rw [un_st h2]; exact nx


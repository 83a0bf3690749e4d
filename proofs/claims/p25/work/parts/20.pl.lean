/-! What the methods do, by families of the store: S is the model's store, I the store of the run. -/
theorem wrI {x : Int} (h1 : -2147483648 ≤ x) (h2 : x ≤ 2147483647) : wr x = x := wr_id ⟨h1, by omega⟩
theorem nS (k : Nat) : ((k : Int) + 1) = ((k + 1 : Nat) : Int) := rfl
theorem nA (a b : Nat) : ((a : Int) + (b : Int)) = ((a + b : Nat) : Int) := rfl
theorem optc (P : Option (Nat × Nat) → Prop) (x : Option Nat) (h1 : x = none → P none) (h2 : ∀ q, x = some q → P (some (20, q))) : P (Option.map (fun q => (20, q)) x) := by
  cases x with
  | none => exact h1 rfl
  | some q => exact h2 q rfl
def pl (S : IT) (s : Nat) (num : Int) : Nat → Int
  | 0 => -1
  | k + 1 => if S 30 0 (4 * s + k) ≤ num ∧ num ≤ S 31 0 (4 * s + k) then S 32 0 (4 * s + k) else pl S s num k
def plc (S : IT) (s : Nat) (num : Int) : Int := pl S s num (S 29 0 s).toNat
/-- the spans of the model's streets -/
def VS (S : IT) (p : Int) : Prop := ∀ s : Nat, s < 12 → 0 ≤ S 29 0 s ∧ S 29 0 s ≤ 4 ∧ (∀ j : Nat, (j : Int) < S 29 0 s → S 30 0 (4 * s + j) ≤ S 31 0 (4 * s + j) ∧ 0 ≤ S 32 0 (4 * s + j) ∧ S 32 0 (4 * s + j) < p) ∧ ∀ i j : Nat, i < j → (j : Int) < S 29 0 s → S 31 0 (4 * s + i) < S 30 0 (4 * s + j) ∨ S 31 0 (4 * s + j) < S 30 0 (4 * s + i)
def RS (I S : IT) : Prop := ∀ s : Nat, s < 12 → I 10 s 0 = S 29 0 s ∧ ∀ j : Nat, (j : Int) < S 29 0 s → I 11 s j = S 30 0 (4 * s + j) ∧ I 12 s j = S 31 0 (4 * s + j) ∧ I 13 s j = S 32 0 (4 * s + j)
theorem pl_none {S : IT} {s : Nat} {num : Int} : ∀ n, (∀ j, j < n → ¬ (S 30 0 (4 * s + j) ≤ num ∧ num ≤ S 31 0 (4 * s + j))) → pl S s num n = -1 := by
  intro n
  induction n with
  | zero => intro _; rfl
  | succ n ih =>
    intro h
    unfold pl
    rw [if_neg (h n (by omega))]
    exact ih (fun j hj => h j (by omega))
theorem pl_hit {S : IT} {s : Nat} {num : Int} {k : Nat} (hk : S 30 0 (4 * s + k) ≤ num ∧ num ≤ S 31 0 (4 * s + k)) : ∀ n, k < n → (∀ j, j < n → k < j → ¬ (S 30 0 (4 * s + j) ≤ num ∧ num ≤ S 31 0 (4 * s + j))) → pl S s num n = S 32 0 (4 * s + k) := by
  intro n
  induction n with
  | zero => intro h; omega
  | succ n ih =>
    intro h h2
    unfold pl
    by_cases e : k = n
    · subst e; rw [if_pos hk]
    · rw [if_neg (h2 n (by omega) (by omega))]
      exact ih (by omega) (fun j hj => h2 j (by omega))
theorem pl_cases {S : IT} {s : Nat} {num : Int} : ∀ n, pl S s num n = -1 ∨ ∃ k, k < n ∧ pl S s num n = S 32 0 (4 * s + k) := by
  intro n
  induction n with
  | zero => exact Or.inl rfl
  | succ n ih =>
    unfold pl
    by_cases e : S 30 0 (4 * s + n) ≤ num ∧ num ≤ S 31 0 (4 * s + n)
    · rw [if_pos e]; exact Or.inr ⟨n, by omega, rfl⟩
    · rw [if_neg e]
      rcases ih with h | ⟨k, h1, h2⟩
      · exact Or.inl h
      · exact Or.inr ⟨k, by omega, h2⟩
theorem plc_in {S : IT} {p : Int} (V : VS S p) {s : Nat} (hs : s < 12) (num : Int) : -1 ≤ plc S s num ∧ (plc S s num < p ∨ plc S s num = -1) := by
  obtain ⟨h1, h2, h3, _⟩ := V s hs
  unfold plc
  rcases pl_cases (S := S) (s := s) (num := num) (S 29 0 s).toNat with h | ⟨k, hk, h⟩
  · rw [h]; omega
  · have := h3 k (by omega)
    rw [h]; omega

theorem k136_0 {fs : List fr} {I : IT} {cc : Nat → Option Nat} {n c z : Nat} {out : oP} {s : Nat} {num : Int} (h : Rn 136 2 [some (vr 10 s), some (vi num), some (vi 0)] [] (fs) I (Cs cc) n c z out) : Rn 136 0 [some (vr 10 s), some (vi num), none] [] (fs) I (Cs cc) n c z out :=
  (Rn.iconst (pc2 := 1) rfl rfl (Rn.istore_n (pc2 := 2) (ls2 := [some (vr 10 s), some (vi num), some (vi 0)]) rfl rfl rfl h))

theorem k136_2 {fs : List fr} {I : IT} {cc : Nat → Option Nat} {n c z : Nat} {out : oP} {s : Nat} {num : Int} {i : Int} (h : ((i < (I 10 s 0)) → ((0 ≤ i ∧ i < 4) ∧ (((num < (I 11 s (Int.toNat i))) → (Rn 136 2 [some (vr 10 s), some (vi num), some (vi (wr (i + 1)))] [] (fs) I (Cs cc) n c z out)) ∧ (¬ (num < (I 11 s (Int.toNat i))) → ((((I 12 s (Int.toNat i)) < num) → (Rn 136 2 [some (vr 10 s), some (vi num), some (vi (wr (i + 1)))] [] (fs) I (Cs cc) n c z out)) ∧ (¬ ((I 12 s (Int.toNat i)) < num) → (Rf (Sum.inl (some (vi (I 13 s (Int.toNat i))))) fs I (Cs cc) n c z out))))))) ∧ (¬ (i < (I 10 s 0)) → (Rf (Sum.inl (some (vi (-1)))) fs I (Cs cc) n c z out))) : Rn 136 2 [some (vr 10 s), some (vi num), some (vi i)] [] (fs) I (Cs cc) n c z out :=
  (Rn.iload_n (pc2 := 3) rfl rfl rfl (Rn.aload_n (pc2 := 4) rfl rfl rfl (Rn.getI (pc2 := 7) rfl rfl rfl rfl (Rn.ic_ge (pc2 := 10) rfl rfl (fun q1 => (Rn.aload_n (pc2 := 11) rfl rfl rfl (Rn.getR (pc2 := 14) (q := (some (11, s))) rfl rfl rfl rfl rfl (Rn.iload_n (pc2 := 15) rfl rfl rfl (Rn.iald (pc2 := 16) (L := 4) rfl rfl rfl (h.1 q1).1 rfl (Rn.iload_n (pc2 := 17) rfl rfl rfl (Rn.ic_gt (pc2 := 20) rfl rfl (fun q2 => (Rn.iinc (pc2 := 40) (ls2 := [some (vr 10 s), some (vi num), some (vi (wr (i + 1)))]) rfl rfl rfl rfl (Rn.goto rfl ((h.1 q1).2.1 q2)))) (fun q2 => (Rn.iload_n (pc2 := 21) rfl rfl rfl (Rn.aload_n (pc2 := 22) rfl rfl rfl (Rn.getR (pc2 := 25) (q := (some (12, s))) rfl rfl rfl rfl rfl (Rn.iload_n (pc2 := 26) rfl rfl rfl (Rn.iald (pc2 := 27) (L := 4) rfl rfl rfl (h.1 q1).1 rfl (Rn.ic_gt (pc2 := 30) rfl rfl (fun q3 => (Rn.iinc (pc2 := 40) (ls2 := [some (vr 10 s), some (vi num), some (vi (wr (i + 1)))]) rfl rfl rfl rfl (Rn.goto rfl (((h.1 q1).2.2 q2).1 q3)))) (fun q3 => (Rn.aload_n (pc2 := 31) rfl rfl rfl (Rn.getR (pc2 := 34) (q := (some (13, s))) rfl rfl rfl rfl rfl (Rn.iload_n (pc2 := 35) rfl rfl rfl (Rn.iald (pc2 := 36) (L := 4) rfl rfl rfl (h.1 q1).1 rfl (Rn.iret rfl rfl (((h.1 q1).2.2 q2).2 q3))))))))))))))))))))) (fun q1 => (Rn.iconst (pc2 := 44) rfl rfl (Rn.iret rfl rfl (h.2 q1))))))))

theorem k46_0 {fs : List fr} {I : IT} {cc : Nat → Option Nat} {n c z : Nat} {out : oP} {s : Int} {num : Int} (h : Rn 46 7 [some (vr 27 0), some (vi s), some (vi num), some (vi (-1)), some (vi (wr (4 * s)))] [] (fs) I (Cs cc) n c z out) : Rn 46 0 [some (vr 27 0), some (vi s), some (vi num), none, none] [] (fs) I (Cs cc) n c z out :=
  (Rn.iconst (pc2 := 1) rfl rfl (Rn.istore_n (pc2 := 2) (ls2 := [some (vr 27 0), some (vi s), some (vi num), some (vi (-1)), none]) rfl rfl rfl (Rn.iconst (pc2 := 3) rfl rfl (Rn.iload_n (pc2 := 4) rfl rfl rfl (Rn.imul (pc2 := 5) rfl rfl (Rn.istore (pc2 := 7) (ls2 := [some (vr 27 0), some (vi s), some (vi num), some (vi (-1)), some (vi (wr (4 * s)))]) rfl rfl rfl h))))))

theorem k46_7 {fs : List fr} {I : IT} {cc : Nat → Option Nat} {n c z : Nat} {out : oP} {s : Int} {num : Int} {found : Int} {k : Int} (h : (0 ≤ s ∧ s < 12) ∧ (((k < (wr ((wr (4 * s)) + (I 29 0 (Int.toNat s))))) → ((0 ≤ k ∧ k < 48) ∧ (((num < (I 30 0 (Int.toNat k))) → (Rn 46 7 [some (vr 27 0), some (vi s), some (vi num), some (vi found), some (vi (wr (k + 1)))] [] (fs) I (Cs cc) n c z out)) ∧ (¬ (num < (I 30 0 (Int.toNat k))) → ((((I 31 0 (Int.toNat k)) < num) → (Rn 46 7 [some (vr 27 0), some (vi s), some (vi num), some (vi found), some (vi (wr (k + 1)))] [] (fs) I (Cs cc) n c z out)) ∧ (¬ ((I 31 0 (Int.toNat k)) < num) → (Rn 46 7 [some (vr 27 0), some (vi s), some (vi num), some (vi (I 32 0 (Int.toNat k))), some (vi (wr (k + 1)))] [] (fs) I (Cs cc) n c z out))))))) ∧ (¬ (k < (wr ((wr (4 * s)) + (I 29 0 (Int.toNat s))))) → (Rf (Sum.inl (some (vi found))) fs I (Cs cc) n c z out)))) : Rn 46 7 [some (vr 27 0), some (vi s), some (vi num), some (vi found), some (vi k)] [] (fs) I (Cs cc) n c z out :=
  (Rn.iload (pc2 := 9) rfl rfl rfl (Rn.iconst (pc2 := 10) rfl rfl (Rn.iload_n (pc2 := 11) rfl rfl rfl (Rn.imul (pc2 := 12) rfl rfl (Rn.aload_n (pc2 := 13) rfl rfl rfl (Rn.getR (pc2 := 16) (q := (some (29, 0))) rfl rfl rfl rfl rfl (Rn.iload_n (pc2 := 17) rfl rfl rfl (Rn.iald (pc2 := 18) (L := 12) rfl rfl rfl h.1 rfl (Rn.iadd (pc2 := 19) rfl rfl (Rn.ic_ge (pc2 := 22) rfl rfl (fun q4 => (Rn.iload_n (pc2 := 23) rfl rfl rfl (Rn.aload_n (pc2 := 24) rfl rfl rfl (Rn.getR (pc2 := 27) (q := (some (30, 0))) rfl rfl rfl rfl rfl (Rn.iload (pc2 := 29) rfl rfl rfl (Rn.iald (pc2 := 30) (L := 48) rfl rfl rfl (h.2.1 q4).1 rfl (Rn.aload_n (pc2 := 31) rfl rfl rfl (Rn.getR (pc2 := 34) (q := (some (31, 0))) rfl rfl rfl rfl rfl (Rn.iload (pc2 := 36) rfl rfl rfl (Rn.iald (pc2 := 37) (L := 48) rfl rfl rfl (h.2.1 q4).1 rfl (Rn.ista (as := [vi num, vi (I 30 0 (Int.toNat k)), vi (I 31 0 (Int.toNat k))]) (r := []) (ls2 := [some (vi num), some (vi (I 30 0 (Int.toNat k))), some (vi (I 31 0 (Int.toNat k)))]) rfl rfl rfl rfl rfl rfl rfl (Rn.iload_n (pc2 := 1) rfl rfl rfl (Rn.iload_n (pc2 := 2) rfl rfl rfl (Rn.ic_lt (pc2 := 5) rfl rfl (fun q5 => (Rn.iconst (pc2 := 15) rfl rfl (Rn.zret rfl rfl (by decide) (Rf.sm (pc2 := 40) rfl (Rn.iz_eq (pc2 := 43) rfl rfl (fun _ =>  (Rn.iload_n (pc2 := 54) rfl rfl rfl (Rn.istore_n (pc2 := 55) (ls2 := [some (vr 27 0), some (vi s), some (vi num), some (vi found), some (vi k)]) rfl rfl rfl (Rn.iinc (pc2 := 58) (ls2 := [some (vr 27 0), some (vi s), some (vi num), some (vi found), some (vi (wr (k + 1)))]) rfl rfl rfl rfl (Rn.goto rfl ((h.2.1 q4).2.1 q5)))))) (fun q => absurd (show ((0 : Int) = 0) by decide) q)))))) (fun q5 => (Rn.iload_n (pc2 := 6) rfl rfl rfl (Rn.iload_n (pc2 := 7) rfl rfl rfl (Rn.ic_gt (pc2 := 10) rfl rfl (fun q6 => (Rn.iconst (pc2 := 15) rfl rfl (Rn.zret rfl rfl (by decide) (Rf.sm (pc2 := 40) rfl (Rn.iz_eq (pc2 := 43) rfl rfl (fun _ =>  (Rn.iload_n (pc2 := 54) rfl rfl rfl (Rn.istore_n (pc2 := 55) (ls2 := [some (vr 27 0), some (vi s), some (vi num), some (vi found), some (vi k)]) rfl rfl rfl (Rn.iinc (pc2 := 58) (ls2 := [some (vr 27 0), some (vi s), some (vi num), some (vi found), some (vi (wr (k + 1)))]) rfl rfl rfl rfl (Rn.goto rfl (((h.2.1 q4).2.2 q5).1 q6)))))) (fun q => absurd (show ((0 : Int) = 0) by decide) q)))))) (fun q6 => (Rn.iconst (pc2 := 11) rfl rfl (Rn.goto rfl (Rn.zret rfl rfl (by decide) (Rf.sm (pc2 := 40) rfl (Rn.iz_eq (pc2 := 43) rfl rfl (fun q => absurd q (show (¬ ((1 : Int) = 0)) by decide)) (fun _ =>  (Rn.aload_n (pc2 := 44) rfl rfl rfl (Rn.getR (pc2 := 47) (q := (some (32, 0))) rfl rfl rfl rfl rfl (Rn.iload (pc2 := 49) rfl rfl rfl (Rn.iald (pc2 := 50) (L := 48) rfl rfl rfl (h.2.1 q4).1 rfl (Rn.goto rfl (Rn.istore_n (pc2 := 55) (ls2 := [some (vr 27 0), some (vi s), some (vi num), some (vi (I 32 0 (Int.toNat k))), some (vi k)]) rfl rfl rfl (Rn.iinc (pc2 := 58) (ls2 := [some (vr 27 0), some (vi s), some (vi num), some (vi (I 32 0 (Int.toNat k))), some (vi (wr (k + 1)))]) rfl rfl rfl rfl (Rn.goto rfl (((h.2.1 q4).2.2 q5).2 q6)))))))))))))))))))))))))))))))))) (fun q4 => (Rn.iload_n (pc2 := 62) rfl rfl rfl (Rn.iret rfl rfl (h.2.2 q4))))))))))))))

theorem k95_0 {fs : List fr} {I : IT} {cc : Nat → Option Nat} {n c z : Nat} {out : oP} {s : Int} {num : Int} (h : ((s < 0) → (Rf (Sum.inl (some (vi (-1)))) fs I (Cs cc) n c z out)) ∧ (¬ (s < 0) → (((s < (I 3 0 0)) → ((0 ≤ s ∧ s < 12) ∧ (Rn 136 0 [some (vr 10 (Int.toNat s)), some (vi num), none] [] ((95, 20, [some (vr 3 0), some (vi s), some (vi num)], []) :: fs) I (Cs cc) n c z out))) ∧ (¬ (s < (I 3 0 0)) → (Rf (Sum.inl (some (vi (-1)))) fs I (Cs cc) n c z out))))) : Rn 95 0 [some (vr 3 0), some (vi s), some (vi num)] [] (fs) I (Cs cc) n c z out :=
  (Rn.iload_n (pc2 := 1) rfl rfl rfl (Rn.aload_n (pc2 := 2) rfl rfl rfl (Rn.getI (pc2 := 5) rfl rfl rfl rfl (Rn.ista (as := [vi s, vi (I 3 0 0)]) (r := []) (ls2 := [some (vi s), some (vi (I 3 0 0))]) rfl rfl rfl rfl rfl rfl rfl (Rn.iload_n (pc2 := 1) rfl rfl rfl (Rn.iz_lt (pc2 := 4) rfl rfl (fun q7 => (Rn.iconst (pc2 := 14) rfl rfl (Rn.zret rfl rfl (by decide) (Rf.sm (pc2 := 8) rfl (Rn.iz_ne (pc2 := 11) rfl rfl (fun _ =>  (Rn.iconst (pc2 := 12) rfl rfl (Rn.iret rfl rfl (h.1 q7)))) (fun q => absurd (show ((0 : Int) = 0) by decide) q)))))) (fun q7 => (Rn.iload_n (pc2 := 5) rfl rfl rfl (Rn.iload_n (pc2 := 6) rfl rfl rfl (Rn.ic_ge (pc2 := 9) rfl rfl (fun q8 => (Rn.iconst (pc2 := 10) rfl rfl (Rn.goto rfl (Rn.zret rfl rfl (by decide) (Rf.sm (pc2 := 8) rfl (Rn.iz_ne (pc2 := 11) rfl rfl (fun q => absurd q (show (¬ ((1 : Int) = 0)) by decide)) (fun _ =>  (Rn.aload_n (pc2 := 14) rfl rfl rfl (Rn.getR (pc2 := 17) (q := (some (4, 0))) rfl rfl rfl rfl rfl (Rn.iload_n (pc2 := 18) rfl rfl rfl (Rn.aald (pc2 := 19) (L := 12) (q := (some (10, (Int.toNat s)))) rfl rfl rfl rfl ((h.2 q7).1 q8).1 rfl rfl (Rn.iload_n (pc2 := 20) rfl rfl rfl (Rn.ivir (as := [vi num]) (r := []) (ls2 := [some (vr 10 (Int.toNat s)), some (vi num), none]) (f := 10) (i := (Int.toNat s)) rfl rfl rfl rfl rfl rfl rfl ((h.2 q7).1 q8).2))))))))))))) (fun q8 => (Rn.iconst (pc2 := 14) rfl rfl (Rn.zret rfl rfl (by decide) (Rf.sm (pc2 := 8) rfl (Rn.iz_ne (pc2 := 11) rfl rfl (fun _ =>  (Rn.iconst (pc2 := 12) rfl rfl (Rn.iret rfl rfl ((h.2 q7).2 q8)))) (fun q => absurd (show ((0 : Int) = 0) by decide) q))))))))))))))))

theorem k116_0 {fs : List fr} {I : IT} {cc : Nat → Option Nat} {n c z : Nat} {out : oP} {x : Int} {y : Int} (h : ((x < 0) → (Rf (Sum.inl (some (vi (-1)))) fs I (Cs cc) n c z out)) ∧ (¬ (x < 0) → (((x < (I 1 0 0)) → (((y < 0) → (Rf (Sum.inl (some (vi (-1)))) fs I (Cs cc) n c z out)) ∧ (¬ (y < 0) → (((y < (I 1 0 0)) → ((0 ≤ (wr ((wr (x * 12)) + y)) ∧ (wr ((wr (x * 12)) + y)) < 144) ∧ (Rf (Sum.inl (some (vi (I 2 0 (Int.toNat (wr ((wr (x * 12)) + y))))))) fs I (Cs cc) n c z out))) ∧ (¬ (y < (I 1 0 0)) → (Rf (Sum.inl (some (vi (-1)))) fs I (Cs cc) n c z out)))))) ∧ (¬ (x < (I 1 0 0)) → (Rf (Sum.inl (some (vi (-1)))) fs I (Cs cc) n c z out))))) : Rn 116 0 [some (vr 1 0), some (vi x), some (vi y)] [] (fs) I (Cs cc) n c z out :=
  (Rn.iload_n (pc2 := 1) rfl rfl rfl (Rn.aload_n (pc2 := 2) rfl rfl rfl (Rn.getI (pc2 := 5) rfl rfl rfl rfl (Rn.ista (as := [vi x, vi (I 1 0 0)]) (r := []) (ls2 := [some (vi x), some (vi (I 1 0 0))]) rfl rfl rfl rfl rfl rfl rfl (Rn.iload_n (pc2 := 1) rfl rfl rfl (Rn.iz_lt (pc2 := 4) rfl rfl (fun q9 => (Rn.iconst (pc2 := 14) rfl rfl (Rn.zret rfl rfl (by decide) (Rf.sm (pc2 := 8) rfl (Rn.iz_eq (pc2 := 11) rfl rfl (fun _ =>  (Rn.iconst (pc2 := 23) rfl rfl (Rn.iret rfl rfl (h.1 q9)))) (fun q => absurd (show ((0 : Int) = 0) by decide) q)))))) (fun q9 => (Rn.iload_n (pc2 := 5) rfl rfl rfl (Rn.iload_n (pc2 := 6) rfl rfl rfl (Rn.ic_ge (pc2 := 9) rfl rfl (fun q10 => (Rn.iconst (pc2 := 10) rfl rfl (Rn.goto rfl (Rn.zret rfl rfl (by decide) (Rf.sm (pc2 := 8) rfl (Rn.iz_eq (pc2 := 11) rfl rfl (fun q => absurd q (show (¬ ((1 : Int) = 0)) by decide)) (fun _ =>  (Rn.iload_n (pc2 := 12) rfl rfl rfl (Rn.aload_n (pc2 := 13) rfl rfl rfl (Rn.getI (pc2 := 16) rfl rfl rfl rfl (Rn.ista (as := [vi y, vi (I 1 0 0)]) (r := []) (ls2 := [some (vi y), some (vi (I 1 0 0))]) rfl rfl rfl rfl rfl rfl rfl (Rn.iload_n (pc2 := 1) rfl rfl rfl (Rn.iz_lt (pc2 := 4) rfl rfl (fun q11 => (Rn.iconst (pc2 := 14) rfl rfl (Rn.zret rfl rfl (by decide) (Rf.sm (pc2 := 19) rfl (Rn.iz_ne (pc2 := 22) rfl rfl (fun _ =>  (Rn.iconst (pc2 := 23) rfl rfl (Rn.iret rfl rfl (((h.2 q9).1 q10).1 q11)))) (fun q => absurd (show ((0 : Int) = 0) by decide) q)))))) (fun q11 => (Rn.iload_n (pc2 := 5) rfl rfl rfl (Rn.iload_n (pc2 := 6) rfl rfl rfl (Rn.ic_ge (pc2 := 9) rfl rfl (fun q12 => (Rn.iconst (pc2 := 10) rfl rfl (Rn.goto rfl (Rn.zret rfl rfl (by decide) (Rf.sm (pc2 := 19) rfl (Rn.iz_ne (pc2 := 22) rfl rfl (fun q => absurd q (show (¬ ((1 : Int) = 0)) by decide)) (fun _ =>  (Rn.aload_n (pc2 := 25) rfl rfl rfl (Rn.getR (pc2 := 28) (q := (some (2, 0))) rfl rfl rfl rfl rfl (Rn.iload_n (pc2 := 29) rfl rfl rfl (Rn.bipush (pc2 := 31) rfl rfl (Rn.imul (pc2 := 32) rfl rfl (Rn.iload_n (pc2 := 33) rfl rfl rfl (Rn.iadd (pc2 := 34) rfl rfl (Rn.iald (pc2 := 35) (L := 144) rfl rfl rfl ((((h.2 q9).1 q10).2 q11).1 q12).1 rfl (Rn.iret rfl rfl ((((h.2 q9).1 q10).2 q11).1 q12).2)))))))))))))))) (fun q12 => (Rn.iconst (pc2 := 14) rfl rfl (Rn.zret rfl rfl (by decide) (Rf.sm (pc2 := 19) rfl (Rn.iz_ne (pc2 := 22) rfl rfl (fun _ =>  (Rn.iconst (pc2 := 23) rfl rfl (Rn.iret rfl rfl ((((h.2 q9).1 q10).2 q11).2 q12)))) (fun q => absurd (show ((0 : Int) = 0) by decide) q))))))))))))))))))))))) (fun q10 => (Rn.iconst (pc2 := 14) rfl rfl (Rn.zret rfl rfl (by decide) (Rf.sm (pc2 := 8) rfl (Rn.iz_eq (pc2 := 11) rfl rfl (fun _ =>  (Rn.iconst (pc2 := 23) rfl rfl (Rn.iret rfl rfl ((h.2 q9).2 q10)))) (fun q => absurd (show ((0 : Int) = 0) by decide) q))))))))))))))))

theorem k98_0 {fs : List fr} {I : IT} {cc : Nat → Option Nat} {n c z : Nat} {out : oP} {x : Int} {y : Int} (h : ((x < 0) → (Rf (Sum.inl (some (vi 0))) fs I (Cs cc) n c z out)) ∧ (¬ (x < 0) → (((x < 30) → (((y < 0) → (Rf (Sum.inl (some (vi 0))) fs I (Cs cc) n c z out)) ∧ (¬ (y < 0) → (((y < 30) → ((0 ≤ x ∧ x < 30) ∧ ((0 ≤ y ∧ y < 30) ∧ ((((I 6 0 (Int.toNat x)) = (I 6 0 (Int.toNat y))) → (Rf (Sum.inl (some (vi 1))) fs I (Cs cc) n c z out)) ∧ (¬ ((I 6 0 (Int.toNat x)) = (I 6 0 (Int.toNat y))) → (Rf (Sum.inl (some (vi 0))) fs I (Cs cc) n c z out)))))) ∧ (¬ (y < 30) → (Rf (Sum.inl (some (vi 0))) fs I (Cs cc) n c z out)))))) ∧ (¬ (x < 30) → (Rf (Sum.inl (some (vi 0))) fs I (Cs cc) n c z out))))) : Rn 98 0 [some (vr 3 0), some (vi x), some (vi y)] [] (fs) I (Cs cc) n c z out :=
  (Rn.iload_n (pc2 := 1) rfl rfl rfl (Rn.bipush (pc2 := 3) rfl rfl (Rn.ista (as := [vi x, vi 30]) (r := []) (ls2 := [some (vi x), some (vi 30)]) rfl rfl rfl rfl rfl rfl rfl (Rn.iload_n (pc2 := 1) rfl rfl rfl (Rn.iz_lt (pc2 := 4) rfl rfl (fun q13 => (Rn.iconst (pc2 := 14) rfl rfl (Rn.zret rfl rfl (by decide) (Rf.sm (pc2 := 6) rfl (Rn.iz_eq (pc2 := 9) rfl rfl (fun _ =>  (Rn.iconst (pc2 := 38) rfl rfl (Rn.zret rfl rfl (by decide) (h.1 q13)))) (fun q => absurd (show ((0 : Int) = 0) by decide) q)))))) (fun q13 => (Rn.iload_n (pc2 := 5) rfl rfl rfl (Rn.iload_n (pc2 := 6) rfl rfl rfl (Rn.ic_ge (pc2 := 9) rfl rfl (fun q14 => (Rn.iconst (pc2 := 10) rfl rfl (Rn.goto rfl (Rn.zret rfl rfl (by decide) (Rf.sm (pc2 := 6) rfl (Rn.iz_eq (pc2 := 9) rfl rfl (fun q => absurd q (show (¬ ((1 : Int) = 0)) by decide)) (fun _ =>  (Rn.iload_n (pc2 := 10) rfl rfl rfl (Rn.bipush (pc2 := 12) rfl rfl (Rn.ista (as := [vi y, vi 30]) (r := []) (ls2 := [some (vi y), some (vi 30)]) rfl rfl rfl rfl rfl rfl rfl (Rn.iload_n (pc2 := 1) rfl rfl rfl (Rn.iz_lt (pc2 := 4) rfl rfl (fun q15 => (Rn.iconst (pc2 := 14) rfl rfl (Rn.zret rfl rfl (by decide) (Rf.sm (pc2 := 15) rfl (Rn.iz_eq (pc2 := 18) rfl rfl (fun _ =>  (Rn.iconst (pc2 := 38) rfl rfl (Rn.zret rfl rfl (by decide) (((h.2 q13).1 q14).1 q15)))) (fun q => absurd (show ((0 : Int) = 0) by decide) q)))))) (fun q15 => (Rn.iload_n (pc2 := 5) rfl rfl rfl (Rn.iload_n (pc2 := 6) rfl rfl rfl (Rn.ic_ge (pc2 := 9) rfl rfl (fun q16 => (Rn.iconst (pc2 := 10) rfl rfl (Rn.goto rfl (Rn.zret rfl rfl (by decide) (Rf.sm (pc2 := 15) rfl (Rn.iz_eq (pc2 := 18) rfl rfl (fun q => absurd q (show (¬ ((1 : Int) = 0)) by decide)) (fun _ =>  (Rn.aload_n (pc2 := 19) rfl rfl rfl (Rn.getR (pc2 := 22) (q := (some (6, 0))) rfl rfl rfl rfl rfl (Rn.iload_n (pc2 := 23) rfl rfl rfl (Rn.iald (pc2 := 24) (L := 30) rfl rfl rfl ((((h.2 q13).1 q14).2 q15).1 q16).1 rfl (Rn.aload_n (pc2 := 25) rfl rfl rfl (Rn.getR (pc2 := 28) (q := (some (6, 0))) rfl rfl rfl rfl rfl (Rn.iload_n (pc2 := 29) rfl rfl rfl (Rn.iald (pc2 := 30) (L := 30) rfl rfl rfl ((((h.2 q13).1 q14).2 q15).1 q16).2.1 rfl (Rn.ic_ne (pc2 := 33) rfl rfl (fun q17 => (Rn.iconst (pc2 := 34) rfl rfl (Rn.goto rfl (Rn.zret rfl rfl (by decide) (((((h.2 q13).1 q14).2 q15).1 q16).2.2.1 q17))))) (fun q17 => (Rn.iconst (pc2 := 38) rfl rfl (Rn.zret rfl rfl (by decide) (((((h.2 q13).1 q14).2 q15).1 q16).2.2.2 q17)))))))))))))))))))) (fun q16 => (Rn.iconst (pc2 := 14) rfl rfl (Rn.zret rfl rfl (by decide) (Rf.sm (pc2 := 15) rfl (Rn.iz_eq (pc2 := 18) rfl rfl (fun _ =>  (Rn.iconst (pc2 := 38) rfl rfl (Rn.zret rfl rfl (by decide) ((((h.2 q13).1 q14).2 q15).2 q16)))) (fun q => absurd (show ((0 : Int) = 0) by decide) q)))))))))))))))))))))) (fun q14 => (Rn.iconst (pc2 := 14) rfl rfl (Rn.zret rfl rfl (by decide) (Rf.sm (pc2 := 6) rfl (Rn.iz_eq (pc2 := 9) rfl rfl (fun _ =>  (Rn.iconst (pc2 := 38) rfl rfl (Rn.zret rfl rfl (by decide) ((h.2 q13).2 q14)))) (fun q => absurd (show ((0 : Int) = 0) by decide) q)))))))))))))))

theorem c_pl_l {fs : List fr} {I S : IT} {cc : Nat → Option Nat} {n c z : Nat} {out : oP} {p : Int} (R : RS I S) (V : VS S p) {s : Nat} (hs : s < 12) (num : Int) (h : Rf (Sum.inl (some (vi (plc S s num)))) fs I (Cs cc) n c z out) : ∀ d k : Nat, k + d = (S 29 0 s).toNat → (∀ j, j < k → ¬ (S 30 0 (4 * s + j) ≤ num ∧ num ≤ S 31 0 (4 * s + j))) → Rn 136 2 [some (vr 10 s), some (vi num), some (vi (k : Int))] [] fs I (Cs cc) n c z out := by
  obtain ⟨v1, v2, v3, v4⟩ := V s hs
  obtain ⟨r1, r2⟩ := R s hs
  intro d
  induction d with
  | zero =>
    intro k hk hn
    refine k136_2 ⟨fun h1 => ?_, fun h1 => ?_⟩
    · rw [r1] at h1; omega
    · have e : plc S s num = -1 := pl_none _ (fun j hj => hn j (by omega))
      rw [e] at h; exact h
  | succ d ih =>
    intro k hk hn
    obtain ⟨a1, a2, a3⟩ := r2 k (by omega)
    have nx : ¬ (S 30 0 (4 * s + k) ≤ num ∧ num ≤ S 31 0 (4 * s + k)) → Rn 136 2 [some (vr 10 s), some (vi num), some (vi ((k + 1 : Nat) : Int))] [] fs I (Cs cc) n c z out := fun hx => ih (k + 1) (by omega) (fun j hj => by
      by_cases e : j = k
      · subst e; exact hx
      · exact hn j (by omega))
    refine k136_2 ?_
    simp (disch := omega) only [wrI, Int.toNat_natCast, nS, nA]
    rw [a1, a2, a3]
    refine ⟨fun h1 => ⟨⟨by omega, by omega⟩, fun h2 => nx (by omega), fun h2 => ⟨fun h3 => nx (by omega), fun h3 => ?_⟩⟩, fun h1 => ?_⟩
    · have e : plc S s num = S 32 0 (4 * s + k) := pl_hit (k := k) ⟨by omega, by omega⟩ _ (by omega) (fun j hj hkj hx => by
        have := v4 k j hkj (by omega)
        omega)
      rw [e] at h; exact h
    · rw [r1] at h1; omega
theorem c_pl {fs : List fr} {I S : IT} {cc : Nat → Option Nat} {n c z : Nat} {out : oP} {p : Int} (R : RS I S) (V : VS S p) {s : Nat} (hs : s < 12) (num : Int) (h : Rf (Sum.inl (some (vi (plc S s num)))) fs I (Cs cc) n c z out) : Rn 136 0 [some (vr 10 s), some (vi num), none] [] fs I (Cs cc) n c z out :=
  k136_0 (c_pl_l R V hs num h (S 29 0 s).toNat 0 (by omega) (fun j hj => by omega))
theorem m_pl_l {fs : List fr} {I : IT} {cc : Nat → Option Nat} {n c z : Nat} {out : oP} {p : Int} (V : VS I p) {s : Nat} (hs : s < 12) (num : Int) (h : Rf (Sum.inl (some (vi (plc I s num)))) fs I (Cs cc) n c z out) : ∀ d k : Nat, k + d = (I 29 0 s).toNat → Rn 46 7 [some (vr 27 0), some (vi (s : Int)), some (vi num), some (vi (pl I s num k)), some (vi ((4 * s + k : Nat) : Int))] [] fs I (Cs cc) n c z out := by
  obtain ⟨v1, v2, v3, v4⟩ := V s hs
  intro d
  induction d with
  | zero =>
    intro k hk
    refine k46_7 ?_
    simp (disch := omega) only [wrI, Int.toNat_natCast, nS, nA]
    refine ⟨by omega, fun h1 => by omega, fun h1 => ?_⟩
    have e : plc I s num = pl I s num k := by unfold plc; rw [← hk]; rfl
    rw [e] at h; exact h
  | succ d ih =>
    intro k hk
    have nx := ih (k + 1) (by omega)
    refine k46_7 ?_
    simp (disch := omega) only [wrI, Int.toNat_natCast, nS, nA]
    refine ⟨by omega, fun h1 => ⟨by omega, fun h2 => ?_, fun h2 => ⟨fun h3 => ?_, fun h3 => ?_⟩⟩, fun h1 => by omega⟩
    · rw [show pl I s num (k + 1) = pl I s num k from if_neg (by omega)] at nx; exact nx
    · rw [show pl I s num (k + 1) = pl I s num k from if_neg (by omega)] at nx; exact nx
    · rw [show pl I s num (k + 1) = I 32 0 (4 * s + k) from if_pos ⟨by omega, by omega⟩] at nx; exact nx
theorem m_pl {fs : List fr} {I : IT} {cc : Nat → Option Nat} {n c z : Nat} {out : oP} {p : Int} (V : VS I p) {s : Nat} (hs : s < 12) (num : Int) (h : Rf (Sum.inl (some (vi (plc I s num)))) fs I (Cs cc) n c z out) : Rn 46 0 [some (vr 27 0), some (vi (s : Int)), some (vi num), none, none] [] fs I (Cs cc) n c z out := by
  refine k46_0 ?_
  rw [wrI (by omega) (by omega)]
  exact m_pl_l V hs num h (I 29 0 s).toNat 0 (by omega)


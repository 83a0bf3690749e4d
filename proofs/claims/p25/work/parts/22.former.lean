theorem cz_ub {S : IT} {s : Nat} {x : Int} : ∀ k j, j < k → S 33 0 j = (s : Int) → S 34 0 j = x → S 35 0 j ≤ cz S s x k := by
  intro k
  induction k with
  | zero => intro j h; omega
  | succ k ih =>
    intro j h h1 h2
    unfold cz
    by_cases e : j = k
    · subst e
      split
      · omega
      · omega
    · have := ih j (by omega) h1 h2
      split
      · omega
      · omega
theorem cz_lb {S : IT} {s : Nat} {x : Int} : ∀ k, -1 ≤ cz S s x k := by
  intro k
  induction k with
  | zero => unfold cz; omega
  | succ k ih => unfold cz; split <;> omega
theorem cz_at {S : IT} {s : Nat} {x : Int} : ∀ k, cz S s x k = -1 ∨ ∃ j, j < k ∧ S 33 0 j = (s : Int) ∧ S 34 0 j = x ∧ cz S s x k = S 35 0 j := by
  intro k
  induction k with
  | zero => exact Or.inl rfl
  | succ k ih =>
    unfold cz
    by_cases e : S 33 0 k = (s : Int) ∧ S 34 0 k = x ∧ cz S s x k < S 35 0 k
    · rw [if_pos e]; exact Or.inr ⟨k, by omega, e.1, e.2.1, rfl⟩
    · rw [if_neg e]
      rcases ih with h | ⟨j, h1, h2⟩
      · exact Or.inl h
      · exact Or.inr ⟨j, by omega, h2⟩
def lm (S : IT) (s : Nat) (name : Int) : Nat → Int
  | 0 => -1
  | k + 1 => if (S 33 0 k = (s : Int) ∧ S 36 0 (S 34 0 k).toNat = S 36 0 name.toNat) ∧ lm S s name k < S 35 0 k then S 35 0 k else lm S s name k
def lcx (S : IT) (s : Nat) (name : Int) : Nat → Int
  | 0 => -1
  | x + 1 => if S 36 0 x = S 36 0 name.toNat ∧ lcx S s name x < cz S s (x : Int) (nn S) then cz S s (x : Int) (nn S) else lcx S s name x
theorem lm_ub {S : IT} {s : Nat} {name : Int} : ∀ k j, j < k → S 33 0 j = (s : Int) → S 36 0 (S 34 0 j).toNat = S 36 0 name.toNat → S 35 0 j ≤ lm S s name k := by
  intro k
  induction k with
  | zero => intro j h; omega
  | succ k ih =>
    intro j h h1 h2
    unfold lm
    by_cases e : j = k
    · subst e
      by_cases g : (S 33 0 j = (s : Int) ∧ S 36 0 (S 34 0 j).toNat = S 36 0 name.toNat) ∧ lm S s name j < S 35 0 j
      · rw [if_pos g]; omega
      · rw [if_neg g]
        have : ¬ lm S s name j < S 35 0 j := fun q => g ⟨⟨h1, h2⟩, q⟩
        omega
    · have := ih j (by omega) h1 h2
      split
      · omega
      · omega
theorem lm_lb {S : IT} {s : Nat} {name : Int} : ∀ k, -1 ≤ lm S s name k := by
  intro k
  induction k with
  | zero => unfold lm; omega
  | succ k ih => unfold lm; split <;> omega
theorem lm_at {S : IT} {s : Nat} {name : Int} : ∀ k, lm S s name k = -1 ∨ ∃ j, j < k ∧ S 33 0 j = (s : Int) ∧ S 36 0 (S 34 0 j).toNat = S 36 0 name.toNat ∧ lm S s name k = S 35 0 j := by
  intro k
  induction k with
  | zero => exact Or.inl rfl
  | succ k ih =>
    unfold lm
    by_cases e : (S 33 0 k = (s : Int) ∧ S 36 0 (S 34 0 k).toNat = S 36 0 name.toNat) ∧ lm S s name k < S 35 0 k
    · rw [if_pos e]; exact Or.inr ⟨k, by omega, e.1.1, e.1.2, rfl⟩
    · rw [if_neg e]
      rcases ih with h | ⟨j, h1, h2⟩
      · exact Or.inl h
      · exact Or.inr ⟨j, by omega, h2⟩
theorem lcx_ub {S : IT} {s : Nat} {name : Int} : ∀ k x : Nat, x < k → S 36 0 x = S 36 0 name.toNat → cz S s (x : Int) (nn S) ≤ lcx S s name k := by
  intro k
  induction k with
  | zero => intro j h; omega
  | succ k ih =>
    intro j h h1
    unfold lcx
    by_cases e : j = k
    · subst e
      by_cases g : S 36 0 j = S 36 0 name.toNat ∧ lcx S s name j < cz S s (j : Int) (nn S)
      · rw [if_pos g]; omega
      · rw [if_neg g]
        have : ¬ lcx S s name j < cz S s (j : Int) (nn S) := fun q => g ⟨h1, q⟩
        omega
    · have := ih j (by omega) h1
      split
      · omega
      · omega
theorem lcx_lb {S : IT} {s : Nat} {name : Int} : ∀ k, -1 ≤ lcx S s name k := by
  intro k
  induction k with
  | zero => unfold lcx; omega
  | succ k ih => unfold lcx; split <;> omega
theorem lcx_at {S : IT} {s : Nat} {name : Int} : ∀ k, lcx S s name k = -1 ∨ ∃ x : Nat, x < k ∧ S 36 0 x = S 36 0 name.toNat ∧ lcx S s name k = cz S s (x : Int) (nn S) := by
  intro k
  induction k with
  | zero => exact Or.inl rfl
  | succ k ih =>
    unfold lcx
    by_cases e : S 36 0 k = S 36 0 name.toNat ∧ lcx S s name k < cz S s (k : Int) (nn S)
    · rw [if_pos e]; exact Or.inr ⟨k, by omega, e.1, rfl⟩
    · rw [if_neg e]
      rcases ih with h | ⟨j, h1, h2⟩
      · exact Or.inl h
      · exact Or.inr ⟨j, by omega, h2⟩
theorem lcx_lm {S : IT} {T : Int} (W : VN S T) (s : Nat) (name : Int) : lcx S s name 30 = lm S s name (nn S) := by
  obtain ⟨w1, w2, w3, w4, w5⟩ := W
  have a : lcx S s name 30 ≤ lm S s name (nn S) := by
    rcases lcx_at (S := S) (s := s) (name := name) 30 with h | ⟨x, hx, h1, h2⟩
    · rw [h]; exact lm_lb _
    · rw [h2]
      rcases cz_at (S := S) (s := s) (x := (x : Int)) (nn S) with g | ⟨j, hj, g1, g2, g3⟩
      · rw [g]; exact lm_lb _
      · rw [g3]
        exact lm_ub _ j hj g1 (by rw [g2]; exact h1)
  have b : lm S s name (nn S) ≤ lcx S s name 30 := by
    rcases lm_at (S := S) (s := s) (name := name) (nn S) with h | ⟨j, hj, h1, h2, h3⟩
    · rw [h]; exact lcx_lb _
    · rw [h3]
      have hj2 : (j : Int) < S 27 0 9 := by unfold nn at hj; omega
      obtain ⟨_, _, n1, n2, _⟩ := w5 j hj2
      have e : (((S 34 0 j).toNat : Nat) : Int) = S 34 0 j := by omega
      refine Int.le_trans (cz_ub (x := (((S 34 0 j).toNat : Nat) : Int)) (nn S) j hj h1 e.symm) (lcx_ub 30 (S 34 0 j).toNat (by omega) h2)
  omega
def ff (S : IT) (name num : Int) : Nat → Int × Int
  | 0 => (-1, -1)
  | s + 1 => if ¬ plc S s num = -1 ∧ (ff S name num s).2 < lm S s name (nn S) then ((s : Int), lm S s name (nn S)) else ff S name num s
theorem ff_in {S : IT} {name num : Int} : ∀ s, -1 ≤ (ff S name num s).1 ∧ (ff S name num s).1 < s ∧ -1 ≤ (ff S name num s).2 := by
  intro s
  induction s with
  | zero => exact ⟨show (-1 : Int) ≤ -1 by omega, show (-1 : Int) < ((0 : Nat) : Int) by omega, show (-1 : Int) ≤ -1 by omega⟩
  | succ s ih =>
    unfold ff
    by_cases e : ¬ plc S s num = -1 ∧ (ff S name num s).2 < lm S s name (nn S)
    · rw [if_pos e]
      exact ⟨show -1 ≤ (s : Int) by omega, show (s : Int) < ((s + 1 : Nat) : Int) by omega, lm_lb _⟩
    · rw [if_neg e]; omega
def ld (S : IT) (name num : Int) : Int := if bf S name num (S 27 0 4).toNat = -1 then (ff S name num (S 27 0 4).toNat).1 else bf S name num (S 27 0 4).toNat

theorem k107_0 {fs : List fr} {I : IT} {cc : Nat → Option Nat} {n c z : Nat} {out : oP} {s : Nat} {name : Int} (h : Rn 107 5 [some (vr 3 0), some (vr 14 s), some (vi name), some (vi (-1)), some (vi 0)] [] (fs) I (Cs cc) n c z out) : Rn 107 0 [some (vr 3 0), some (vr 14 s), some (vi name), none, none] [] (fs) I (Cs cc) n c z out :=
  (Rn.iconst (pc2 := 1) rfl rfl (Rn.istore_n (pc2 := 2) (ls2 := [some (vr 3 0), some (vr 14 s), some (vi name), some (vi (-1)), none]) rfl rfl rfl (Rn.iconst (pc2 := 3) rfl rfl (Rn.istore (pc2 := 5) (ls2 := [some (vr 3 0), some (vr 14 s), some (vi name), some (vi (-1)), some (vi 0)]) rfl rfl rfl h))))

theorem k107_5 {fs : List fr} {I : IT} {cc : Nat → Option Nat} {n c z : Nat} {out : oP} {s : Nat} {name : Int} {latest : Int} {i : Int} (h : ((i < 30) → (Rn 98 0 [some (vr 3 0), some (vi i), some (vi name)] [] ((107, 16, [some (vr 3 0), some (vr 14 s), some (vi name), some (vi latest), some (vi i)], []) :: fs) I (Cs cc) n c z out)) ∧ (¬ (i < 30) → (Rf (Sum.inl (some (vi latest))) fs I (Cs cc) n c z out))) : Rn 107 5 [some (vr 3 0), some (vr 14 s), some (vi name), some (vi latest), some (vi i)] [] (fs) I (Cs cc) n c z out :=
  (Rn.iload (pc2 := 7) rfl rfl rfl (Rn.bipush (pc2 := 9) rfl rfl (Rn.ic_ge (pc2 := 12) rfl rfl (fun q18 => (Rn.aload_n (pc2 := 13) rfl rfl rfl (Rn.iload (pc2 := 15) rfl rfl rfl (Rn.iload_n (pc2 := 16) rfl rfl rfl (Rn.ivir (as := [vi i, vi name]) (r := []) (ls2 := [some (vr 3 0), some (vi i), some (vi name)]) (f := 3) (i := 0) rfl rfl rfl rfl rfl rfl rfl (h.1 q18)))))) (fun q18 => (Rn.iload_n (pc2 := 41) rfl rfl rfl (Rn.iret rfl rfl (h.2 q18)))))))

theorem k107_19 {fs : List fr} {I : IT} {cc : Nat → Option Nat} {n c z : Nat} {out : oP} {s : Nat} {name : Int} {latest : Int} {i : Int} {v : Int} (h : ((v = 0) → (Rn 107 5 [some (vr 3 0), some (vr 14 s), some (vi name), some (vi latest), some (vi (wr (i + 1)))] [] (fs) I (Cs cc) n c z out)) ∧ (¬ (v = 0) → ((0 ≤ i ∧ i < 30) ∧ (Rn 107 5 [some (vr 3 0), some (vr 14 s), some (vi name), some (vi (mxI latest (I 15 s (Int.toNat i)))), some (vi (wr (i + 1)))] [] (fs) I (Cs cc) n c z out)))) : Rn 107 19 [some (vr 3 0), some (vr 14 s), some (vi name), some (vi latest), some (vi i)] [vi v] (fs) I (Cs cc) n c z out :=
  (Rn.iz_eq (pc2 := 22) rfl rfl (fun q19 => (Rn.iinc (pc2 := 37) (ls2 := [some (vr 3 0), some (vr 14 s), some (vi name), some (vi latest), some (vi (wr (i + 1)))]) rfl rfl rfl rfl (Rn.goto rfl (h.1 q19)))) (fun q19 => (Rn.iload_n (pc2 := 23) rfl rfl rfl (Rn.aload_n (pc2 := 24) rfl rfl rfl (Rn.getR (pc2 := 27) (q := (some (15, s))) rfl rfl rfl rfl rfl (Rn.iload (pc2 := 29) rfl rfl rfl (Rn.iald (pc2 := 30) (L := 30) rfl rfl rfl (h.2 q19).1 rfl (Rn.mmax (pc2 := 33) rfl rfl rfl rfl (Rn.istore_n (pc2 := 34) (ls2 := [some (vr 3 0), some (vr 14 s), some (vi name), some (vi (mxI latest (I 15 s (Int.toNat i)))), some (vi i)]) rfl rfl rfl (Rn.iinc (pc2 := 37) (ls2 := [some (vr 3 0), some (vr 14 s), some (vi name), some (vi (mxI latest (I 15 s (Int.toNat i)))), some (vi (wr (i + 1)))]) rfl rfl rfl rfl (Rn.goto rfl (h.2 q19).2)))))))))))

theorem k106_0 {fs : List fr} {I : IT} {cc : Nat → Option Nat} {n c z : Nat} {out : oP} {b : Nat} {name : Int} {num : Int} (h : Rn 106 9 [some (vr 3 0), some (vr 5 b), some (vi name), some (vi num), some (vi (-1)), some (vi (-1)), some (vi 0), none] [] (fs) I (Cs cc) n c z out) : Rn 106 0 [some (vr 3 0), some (vr 5 b), some (vi name), some (vi num), none, none, none, none] [] (fs) I (Cs cc) n c z out :=
  (Rn.iconst (pc2 := 1) rfl rfl (Rn.istore (pc2 := 3) (ls2 := [some (vr 3 0), some (vr 5 b), some (vi name), some (vi num), some (vi (-1)), none, none, none]) rfl rfl rfl (Rn.iconst (pc2 := 4) rfl rfl (Rn.istore (pc2 := 6) (ls2 := [some (vr 3 0), some (vr 5 b), some (vi name), some (vi num), some (vi (-1)), some (vi (-1)), none, none]) rfl rfl rfl (Rn.iconst (pc2 := 7) rfl rfl (Rn.istore (pc2 := 9) (ls2 := [some (vr 3 0), some (vr 5 b), some (vi name), some (vi num), some (vi (-1)), some (vi (-1)), some (vi 0), none]) rfl rfl rfl h))))))

theorem k106_9 {fs : List fr} {I : IT} {cc : Nat → Option Nat} {n c z : Nat} {out : oP} {b : Nat} {name : Int} {num : Int} {found : Int} {latest : Int} {i : Int} {x : Option av} (h : ((i < (I 3 0 0)) → (((i < 12) → (Rn 95 0 [some (vr 3 0), some (vi i), some (vi num)] [] ((106, 29, [some (vr 3 0), some (vr 5 b), some (vi name), some (vi num), some (vi found), some (vi latest), some (vi i), x], []) :: fs) I (Cs cc) n c z out)) ∧ (¬ (i < 12) → (Rf (Sum.inl (some (vi found))) fs I (Cs cc) n c z out)))) ∧ (¬ (i < (I 3 0 0)) → (Rf (Sum.inl (some (vi found))) fs I (Cs cc) n c z out))) : Rn 106 9 [some (vr 3 0), some (vr 5 b), some (vi name), some (vi num), some (vi found), some (vi latest), some (vi i), x] [] (fs) I (Cs cc) n c z out :=
  (Rn.iload (pc2 := 11) rfl rfl rfl (Rn.aload_n (pc2 := 12) rfl rfl rfl (Rn.getI (pc2 := 15) rfl rfl rfl rfl (Rn.ic_ge (pc2 := 18) rfl rfl (fun q20 => (Rn.iload (pc2 := 20) rfl rfl rfl (Rn.aload_n (pc2 := 21) rfl rfl rfl (Rn.alen (pc2 := 22) (L := 12) rfl rfl rfl rfl rfl rfl (Rn.ic_ge (pc2 := 25) rfl rfl (fun q21 => (Rn.aload_n (pc2 := 26) rfl rfl rfl (Rn.iload (pc2 := 28) rfl rfl rfl (Rn.iload_n (pc2 := 29) rfl rfl rfl (Rn.ivir (as := [vi i, vi num]) (r := []) (ls2 := [some (vr 3 0), some (vi i), some (vi num)]) (f := 3) (i := 0) rfl rfl rfl rfl rfl rfl rfl ((h.1 q20).1 q21)))))) (fun q21 => (Rn.iload (pc2 := 74) rfl rfl rfl (Rn.iret rfl rfl ((h.1 q20).2 q21))))))))) (fun q20 => (Rn.iload (pc2 := 74) rfl rfl rfl (Rn.iret rfl rfl (h.2 q20))))))))

theorem k106_32 {fs : List fr} {I : IT} {cc : Nat → Option Nat} {n c z : Nat} {out : oP} {b : Nat} {name : Int} {num : Int} {found : Int} {latest : Int} {i : Int} {x : Option av} {v : Int} (h : ((v = (-1)) → (((latest < (-1)) → (Rn 106 9 [some (vr 3 0), some (vr 5 b), some (vi name), some (vi num), some (vi i), some (vi (-1)), some (vi (wr (i + 1))), some (vi (-1))] [] (fs) I (Cs cc) n c z out)) ∧ (¬ (latest < (-1)) → (Rn 106 9 [some (vr 3 0), some (vr 5 b), some (vi name), some (vi num), some (vi found), some (vi latest), some (vi (wr (i + 1))), some (vi (-1))] [] (fs) I (Cs cc) n c z out)))) ∧ (¬ (v = (-1)) → ((0 ≤ i ∧ i < 12) ∧ (Rn 107 0 [some (vr 3 0), some (vr 14 (12 * b + (Int.toNat i))), some (vi name), none, none] [] ((106, 46, [some (vr 3 0), some (vr 5 b), some (vi name), some (vi num), some (vi found), some (vi latest), some (vi i), x], []) :: fs) I (Cs cc) n c z out)))) : Rn 106 32 [some (vr 3 0), some (vr 5 b), some (vi name), some (vi num), some (vi found), some (vi latest), some (vi i), x] [vi v] (fs) I (Cs cc) n c z out :=
  (Rn.iconst (pc2 := 33) rfl rfl (Rn.ic_ne (pc2 := 36) rfl rfl (fun q22 => (Rn.iconst (pc2 := 37) rfl rfl (Rn.goto rfl (Rn.istore (pc2 := 51) (ls2 := [some (vr 3 0), some (vr 5 b), some (vi name), some (vi num), some (vi found), some (vi latest), some (vi i), some (vi (-1))]) rfl rfl rfl (Rn.iload (pc2 := 53) rfl rfl rfl (Rn.iload (pc2 := 55) rfl rfl rfl (Rn.ic_le (pc2 := 58) rfl rfl (fun q23 => (Rn.iload (pc2 := 60) rfl rfl rfl (Rn.istore (pc2 := 62) (ls2 := [some (vr 3 0), some (vr 5 b), some (vi name), some (vi num), some (vi found), some (vi (-1)), some (vi i), some (vi (-1))]) rfl rfl rfl (Rn.iload (pc2 := 64) rfl rfl rfl (Rn.istore (pc2 := 66) (ls2 := [some (vr 3 0), some (vr 5 b), some (vi name), some (vi num), some (vi i), some (vi (-1)), some (vi i), some (vi (-1))]) rfl rfl rfl (Rn.iinc (pc2 := 69) (ls2 := [some (vr 3 0), some (vr 5 b), some (vi name), some (vi num), some (vi i), some (vi (-1)), some (vi (wr (i + 1))), some (vi (-1))]) rfl rfl rfl rfl (Rn.goto rfl ((h.1 q22).1 q23)))))))) (fun q23 => (Rn.iinc (pc2 := 69) (ls2 := [some (vr 3 0), some (vr 5 b), some (vi name), some (vi num), some (vi found), some (vi latest), some (vi (wr (i + 1))), some (vi (-1))]) rfl rfl rfl rfl (Rn.goto rfl ((h.1 q22).2 q23))))))))))) (fun q22 => (Rn.aload_n (pc2 := 41) rfl rfl rfl (Rn.aload_n (pc2 := 42) rfl rfl rfl (Rn.iload (pc2 := 44) rfl rfl rfl (Rn.aald (pc2 := 45) (L := 12) (q := (some (14, (12 * b + (Int.toNat i))))) rfl rfl rfl rfl (h.2 q22).1 rfl rfl (Rn.iload_n (pc2 := 46) rfl rfl rfl (Rn.ivir (as := [vr 14 (12 * b + (Int.toNat i)), vi name]) (r := []) (ls2 := [some (vr 3 0), some (vr 14 (12 * b + (Int.toNat i))), some (vi name), none, none]) (f := 3) (i := 0) rfl rfl rfl rfl rfl rfl rfl (h.2 q22).2)))))))))

theorem k106_49 {fs : List fr} {I : IT} {cc : Nat → Option Nat} {n c z : Nat} {out : oP} {b : Nat} {name : Int} {num : Int} {found : Int} {latest : Int} {i : Int} {x : Option av} {v : Int} (h : ((latest < v) → (Rn 106 9 [some (vr 3 0), some (vr 5 b), some (vi name), some (vi num), some (vi i), some (vi v), some (vi (wr (i + 1))), some (vi v)] [] (fs) I (Cs cc) n c z out)) ∧ (¬ (latest < v) → (Rn 106 9 [some (vr 3 0), some (vr 5 b), some (vi name), some (vi num), some (vi found), some (vi latest), some (vi (wr (i + 1))), some (vi v)] [] (fs) I (Cs cc) n c z out))) : Rn 106 49 [some (vr 3 0), some (vr 5 b), some (vi name), some (vi num), some (vi found), some (vi latest), some (vi i), x] [vi v] (fs) I (Cs cc) n c z out :=
  (Rn.istore (pc2 := 51) (ls2 := [some (vr 3 0), some (vr 5 b), some (vi name), some (vi num), some (vi found), some (vi latest), some (vi i), some (vi v)]) rfl rfl rfl (Rn.iload (pc2 := 53) rfl rfl rfl (Rn.iload (pc2 := 55) rfl rfl rfl (Rn.ic_le (pc2 := 58) rfl rfl (fun q24 => (Rn.iload (pc2 := 60) rfl rfl rfl (Rn.istore (pc2 := 62) (ls2 := [some (vr 3 0), some (vr 5 b), some (vi name), some (vi num), some (vi found), some (vi v), some (vi i), some (vi v)]) rfl rfl rfl (Rn.iload (pc2 := 64) rfl rfl rfl (Rn.istore (pc2 := 66) (ls2 := [some (vr 3 0), some (vr 5 b), some (vi name), some (vi num), some (vi i), some (vi v), some (vi i), some (vi v)]) rfl rfl rfl (Rn.iinc (pc2 := 69) (ls2 := [some (vr 3 0), some (vr 5 b), some (vi name), some (vi num), some (vi i), some (vi v), some (vi (wr (i + 1))), some (vi v)]) rfl rfl rfl rfl (Rn.goto rfl (h.1 q24)))))))) (fun q24 => (Rn.iinc (pc2 := 69) (ls2 := [some (vr 3 0), some (vr 5 b), some (vi name), some (vi num), some (vi found), some (vi latest), some (vi (wr (i + 1))), some (vi v)]) rfl rfl rfl rfl (Rn.goto rfl (h.2 q24))))))))

theorem k100_0 {fs : List fr} {I : IT} {cc : Nat → Option Nat} {n c z : Nat} {out : oP} {name : Int} {num : Int} (h : Rn 105 0 [some (vr 3 0), some (vr 5 0), some (vi name), some (vi num), none, none] [] ((100, 7, [some (vr 3 0), some (vi name), some (vi num), none], []) :: fs) I (Cs cc) n c z out) : Rn 100 0 [some (vr 3 0), some (vi name), some (vi num), none] [] (fs) I (Cs cc) n c z out :=
  (Rn.aload_n (pc2 := 1) rfl rfl rfl (Rn.aload_n (pc2 := 2) rfl rfl rfl (Rn.getR (pc2 := 5) (q := (some (5, 0))) rfl rfl rfl rfl rfl (Rn.iload_n (pc2 := 6) rfl rfl rfl (Rn.iload_n (pc2 := 7) rfl rfl rfl (Rn.ivir (as := [vr 5 0, vi name, vi num]) (r := []) (ls2 := [some (vr 3 0), some (vr 5 0), some (vi name), some (vi num), none, none]) (f := 3) (i := 0) rfl rfl rfl rfl rfl rfl rfl h))))))

theorem k100_10 {fs : List fr} {I : IT} {cc : Nat → Option Nat} {n c z : Nat} {out : oP} {name : Int} {num : Int} {v : Int} (h : ((v = (-1)) → (Rn 106 0 [some (vr 3 0), some (vr 5 0), some (vi name), some (vi num), none, none, none, none] [] ((100, 23, [some (vr 3 0), some (vi name), some (vi num), some (vi v)], []) :: fs) I (Cs cc) n c z out)) ∧ (¬ (v = (-1)) → (Rf (Sum.inl (some (vi v))) fs I (Cs cc) n c z out))) : Rn 100 10 [some (vr 3 0), some (vi name), some (vi num), none] [vi v] (fs) I (Cs cc) n c z out :=
  (Rn.istore_n (pc2 := 11) (ls2 := [some (vr 3 0), some (vi name), some (vi num), some (vi v)]) rfl rfl rfl (Rn.iload_n (pc2 := 12) rfl rfl rfl (Rn.iconst (pc2 := 13) rfl rfl (Rn.ic_ne (pc2 := 16) rfl rfl (fun q25 => (Rn.aload_n (pc2 := 17) rfl rfl rfl (Rn.aload_n (pc2 := 18) rfl rfl rfl (Rn.getR (pc2 := 21) (q := (some (5, 0))) rfl rfl rfl rfl rfl (Rn.iload_n (pc2 := 22) rfl rfl rfl (Rn.iload_n (pc2 := 23) rfl rfl rfl (Rn.ivir (as := [vr 5 0, vi name, vi num]) (r := []) (ls2 := [some (vr 3 0), some (vr 5 0), some (vi name), some (vi num), none, none, none, none]) (f := 3) (i := 0) rfl rfl rfl rfl rfl rfl rfl (h.1 q25)))))))) (fun q25 => (Rn.iload_n (pc2 := 30) rfl rfl rfl (Rn.iret rfl rfl (h.2 q25))))))))

theorem k100_26 {fs : List fr} {I : IT} {cc : Nat → Option Nat} {n c z : Nat} {out : oP} {name : Int} {num : Int} {s : Int} {v : Int} (h : Rf (Sum.inl (some (vi v))) fs I (Cs cc) n c z out) : Rn 100 26 [some (vr 3 0), some (vi name), some (vi num), some (vi s)] [vi v] (fs) I (Cs cc) n c z out :=
  (Rn.goto rfl (Rn.iret rfl rfl h))

theorem c_lc_l {fs : List fr} {I S : IT} {cc : Nat → Option Nat} {n c z : Nat} {out : oP} {p T : Int} {b : Nat} (RB : RBs b I S) (hb : b < 2) (RGh : RG I S) (R : RS I S) (V : VS S p) (W : VN S T) (r0 : I 3 0 0 = S 27 0 4) {name num : Int} (hn0 : 0 ≤ name) (hn1 : name < 30) {s : Nat} (hs : (s : Int) < S 27 0 4) (h : Rf (Sum.inl (some (vi (lm S s name (nn S))))) fs I (Cs cc) n c z out) : ∀ d k : Nat, k + d = 30 → Rn 107 5 [some (vr 3 0), some (vr 14 (12 * b + s)), some (vi name), some (vi (lcx S s name k)), some (vi (k : Int))] [] fs I (Cs cc) n c z out := by
  intro d
  induction d with
  | zero =>
    intro k hk
    refine k107_5 ⟨fun h1 => by omega, fun h1 => ?_⟩
    rw [show k = 30 by omega, lcx_lm W s name]; exact h
  | succ d ih =>
    intro k hk
    have nx := ih (k + 1) (by omega)
    refine k107_5 ⟨fun h1 => ?_, fun h1 => by omega⟩
    refine c_same RGh (Rf.sm (pc2 := 19) rfl (k107_19 ⟨fun h3 => ?_, fun h3 => ⟨by omega, ?_⟩⟩))
    · have e : lcx S s name (k + 1) = lcx S s name k := if_neg (fun g => by
        unfold smv at h3
        rw [if_pos ⟨by omega, by omega, hn0, hn1, by rw [Int.toNat_natCast]; exact g.1⟩] at h3
        cases h3)
      rw [e] at nx
      rw [wrI (by omega) (by omega), nS]; exact nx
    · have h4 : S 36 0 k = S 36 0 name.toNat := by
        unfold smv at h3
        by_cases g : 0 ≤ (k : Int) ∧ (k : Int) < 30 ∧ 0 ≤ name ∧ name < 30 ∧ S 36 0 (k : Int).toNat = S 36 0 name.toNat
        · have := g.2.2.2.2; rw [Int.toNat_natCast] at this; exact this
        · rw [if_neg g] at h3; exact absurd rfl h3
      have e : lcx S s name (k + 1) = mxI (lcx S s name k) (cz S s (k : Int) (nn S)) := by
        show (if _ then _ else _) = (if _ then _ else _)
        by_cases g : lcx S s name k < cz S s (k : Int) (nn S)
        · rw [if_pos ⟨h4, g⟩, if_pos g]
        · rw [if_neg (fun q => g q.2), if_neg g]
      rw [e] at nx
      rw [Int.toNat_natCast, (RB s hs).2 k (by omega), wrI (by omega) (by omega), nS]; exact nx
theorem c_lc {fs : List fr} {I S : IT} {cc : Nat → Option Nat} {n c z : Nat} {out : oP} {p T : Int} {b : Nat} (RB : RBs b I S) (hb : b < 2) (RGh : RG I S) (R : RS I S) (V : VS S p) (W : VN S T) (r0 : I 3 0 0 = S 27 0 4) {name num : Int} (hn0 : 0 ≤ name) (hn1 : name < 30) {s : Nat} (hs : (s : Int) < S 27 0 4) (h : Rf (Sum.inl (some (vi (lm S s name (nn S))))) fs I (Cs cc) n c z out) : Rn 107 0 [some (vr 3 0), some (vr 14 (12 * b + s)), some (vi name), none, none] [] fs I (Cs cc) n c z out :=
  k107_0 (c_lc_l (num := num) RB hb RGh R V W r0 hn0 hn1 hs h 30 0 (by omega))
theorem c_former_l {fs : List fr} {I S : IT} {cc : Nat → Option Nat} {n c z : Nat} {out : oP} {p T : Int} {b : Nat} (RB : RBs b I S) (hb : b < 2) (RGh : RG I S) (R : RS I S) (V : VS S p) (W : VN S T) (r0 : I 3 0 0 = S 27 0 4) {name num : Int} (hn0 : 0 ≤ name) (hn1 : name < 30) (h : Rf (Sum.inl (some (vi (ff S name num (S 27 0 4).toNat).1))) fs I (Cs cc) n c z out) : ∀ (d k : Nat) (x : Option av), k + d = (S 27 0 4).toNat → Rn 106 9 [some (vr 3 0), some (vr 5 b), some (vi name), some (vi num), some (vi (ff S name num k).1), some (vi (ff S name num k).2), some (vi (k : Int)), x] [] fs I (Cs cc) n c z out := by
  have W0 := W
  obtain ⟨w1, w2, w3, w4, w5⟩ := W
  intro d
  induction d with
  | zero =>
    intro k x hk
    refine k106_9 ⟨fun h1 => by rw [r0] at h1; omega, fun h1 => ?_⟩
    rw [show k = (S 27 0 4).toNat by omega]; exact h
  | succ d ih =>
    intro k x hk
    have nx := fun x => ih (k + 1) x (by omega)
    have hfi := ff_in (S := S) (name := name) (num := num) k
    refine k106_9 ⟨fun h1 => ⟨fun h3 => ?_, fun h3 => by omega⟩, fun h1 => by rw [r0] at h1; omega⟩
    have e9 : plat S (k : Int) num = plc S k num := by
      unfold plat; rw [if_pos ⟨by omega, by omega⟩]; rfl
    refine c_plat R V r0 w4 (Rf.sm (pc2 := 32) rfl ?_)
    rw [e9]
    refine k106_32 ⟨fun h5 => ⟨fun h6 => by omega, fun h6 => ?_⟩, fun h5 => ⟨by omega, ?_⟩⟩
    · have e : ff S name num (k + 1) = ff S name num k := if_neg (fun g => g.1 h5)
      have nx1 := nx (some (vi (-1)))
      rw [e] at nx1
      rw [wrI (by omega) (by omega), nS]; exact nx1
    · rw [Int.toNat_natCast]
      refine c_lc (num := num) RB hb RGh R V W0 r0 hn0 hn1 (s := k) (by omega) (Rf.sm (pc2 := 49) rfl (k106_49 ⟨fun h6 => ?_, fun h6 => ?_⟩))
      · have e : ff S name num (k + 1) = ((k : Int), lm S k name (nn S)) := if_pos ⟨h5, h6⟩
        have nx1 := nx (some (vi (lm S k name (nn S))))
        rw [e] at nx1
        rw [wrI (by omega) (by omega), nS]; exact nx1
      · have e : ff S name num (k + 1) = ff S name num k := if_neg (fun g => h6 g.2)
        have nx1 := nx (some (vi (lm S k name (nn S))))
        rw [e] at nx1
        rw [wrI (by omega) (by omega), nS]; exact nx1
theorem c_former {fs : List fr} {I S : IT} {cc : Nat → Option Nat} {n c z : Nat} {out : oP} {p T : Int} {b : Nat} (RB : RBs b I S) (hb : b < 2) (RGh : RG I S) (R : RS I S) (V : VS S p) (W : VN S T) (r0 : I 3 0 0 = S 27 0 4) {name num : Int} (hn0 : 0 ≤ name) (hn1 : name < 30) (h : Rf (Sum.inl (some (vi (ff S name num (S 27 0 4).toNat).1))) fs I (Cs cc) n c z out) : Rn 106 0 [some (vr 3 0), some (vr 5 b), some (vi name), some (vi num), none, none, none, none] [] fs I (Cs cc) n c z out :=
  k106_0 (c_former_l RB hb RGh R V W r0 hn0 hn1 h (S 27 0 4).toNat 0 _ (by omega))
theorem c_lead {fs : List fr} {I S : IT} {cc : Nat → Option Nat} {n c z : Nat} {out : oP} {p T : Int} (RB : RBr 0 I S) (RGh : RG I S) (R : RS I S) (V : VS S p) (W : VN S T) (r0 : I 3 0 0 = S 27 0 4) {name num : Int} (hn0 : 0 ≤ name) (hn1 : name < 30) (h : Rf (Sum.inl (some (vi (ld S name num)))) fs I (Cs cc) n c z out) : Rn 100 0 [some (vr 3 0), some (vi name), some (vi num), none] [] fs I (Cs cc) n c z out := by
  have RB := RBs_of RB W.2.2.2.1
  refine k100_0 (c_bearer RB (by omega) RGh R V W r0 hn0 hn1 (Rf.sm (pc2 := 10) rfl (k100_10 ⟨fun h1 => ?_, fun h1 => ?_⟩)))
  · refine c_former RB (by omega) RGh R V W r0 hn0 hn1 (Rf.sm (pc2 := 26) rfl (k100_26 ?_))
    rw [show ld S name num = _ from if_pos h1] at h; exact h
  · rw [show ld S name num = _ from if_neg h1] at h; exact h


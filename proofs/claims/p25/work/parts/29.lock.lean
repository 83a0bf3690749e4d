def tk (S : IT) : Nat → Int
  | 0 => 0
  | p + 1 => (if 2 ≤ S 53 0 p then 1 else 0) + tk S p
def VD (S : IT) : Prop := 0 ≤ S 27 0 27 ∧ S 27 0 27 ≤ 6 ∧ 0 ≤ S 27 0 30 ∧ S 27 0 30 ≤ 40 ∧ 0 ≤ S 27 0 1 ∧ S 27 0 1 ≤ 12 ∧ (∀ k : Nat, (k : Int) < S 27 0 27 → 0 ≤ S 48 0 k ∧ S 48 0 k < S 27 0 1) ∧ (∀ k : Nat, k < 18 → 0 ≤ S 49 0 k ∧ S 49 0 k ≤ 9 + tk S 40) ∧ (∀ p : Nat, (p : Int) < S 27 0 30 → 0 ≤ S 50 0 p ∧ S 50 0 p < 30 ∧ 0 ≤ S 52 0 p ∧ S 52 0 p ≤ 2 ∧ (S 53 0 p = 1 → 0 ≤ S 55 0 p ∧ S 55 0 p < S 27 0 27 ∧ 0 ≤ S 56 0 p ∧ S 56 0 p < 3) ∧ (S 58 0 p = 0 ∨ S 58 0 p = 1)) ∧ (∀ p : Nat, p < 40 → ¬ (p : Int) < S 27 0 30 → S 53 0 p = 0 ∧ S 58 0 p = 0)
def RD (I S : IT) : Prop := I 21 0 0 = S 27 0 27 ∧ I 21 0 1 = S 27 0 30 ∧ (∀ k : Nat, k < 6 → ((k : Int) < S 27 0 27 → I 24 k 0 = S 48 0 k ∧ ∀ j : Nat, j < 3 → I 25 k j = S 49 0 (3 * k + j)) ∧ (¬ (k : Int) < S 27 0 27 → ∀ j : Nat, j < 3 → I 25 k j = 0)) ∧ (∀ p : Nat, p < 40 → I 26 p 7 = S 57 0 p ∧ ((p : Int) < S 27 0 30 → I 26 p 0 = S 50 0 p ∧ I 26 p 1 = S 51 0 p ∧ I 26 p 2 = S 52 0 p ∧ I 26 p 3 = S 54 0 p ∧ I 26 p 4 = S 53 0 p ∧ I 26 p 5 = S 55 0 p ∧ I 26 p 6 = S 56 0 p ∧ I 26 p 8 = S 58 0 p) ∧ (¬ (p : Int) < S 27 0 30 → I 26 p 5 = -1 ∧ I 26 p 6 = -1 ∧ I 26 p 8 = 0))
def sz (S : IT) (l : Nat) : Nat → Nat → Int
  | 0, i => (i : Int)
  | d + 1, i => if S 49 0 (3 * l + i) = 0 then sz S l d (i + 1) else (i : Int)
def szo (S : IT) (l : Nat) (s : Int) : Int := sz S l (3 - s.toNat) s.toNat
theorem sz_in {S : IT} {l : Nat} : ∀ d i : Nat, (i : Int) ≤ sz S l d i ∧ sz S l d i ≤ ((i + d : Nat) : Int) := by
  intro d
  induction d with
  | zero => intro i; unfold sz; omega
  | succ d ih =>
    intro i
    have := ih (i + 1)
    unfold sz
    split <;> omega
theorem szo_in {S : IT} {l : Nat} {s : Int} (h0 : 0 ≤ s) (h1 : s ≤ 2) : s ≤ szo S l s ∧ szo S l s ≤ 3 := by
  have := sz_in (S := S) (l := l) (3 - s.toNat) s.toNat
  unfold szo; omega
theorem sz_ne {S : IT} {l : Nat} : ∀ d i, i + d = 3 → sz S l d i < 3 → ¬ S 49 0 (3 * l + (sz S l d i).toNat) = 0 := by
  intro d
  induction d with
  | zero => intro i hi h; unfold sz at h; omega
  | succ d ih =>
    intro i hi h
    unfold sz at h ⊢
    by_cases g : S 49 0 (3 * l + i) = 0
    · rw [if_pos g] at h ⊢; exact ih (i + 1) (by omega) h
    · rw [if_neg g] at h ⊢; rw [Int.toNat_natCast]; exact g
def fl9 (S : IT) (k : Nat) (p : Int) : Int := S 28 0 (12 * p.toNat + (S 48 0 k).toNat)
def lb (S : IT) (p s : Int) : Nat → Int
  | 0 => -1
  | k + 1 => if szo S k s < 3 ∧ fl9 S k p < 1000000 ∧ (lb S p s k = -1 ∨ fl9 S k p < fl9 S (lb S p s k).toNat p) then (k : Int) else lb S p s k
theorem lb_in {S : IT} {p s : Int} : ∀ k, -1 ≤ lb S p s k ∧ lb S p s k < k := by
  intro k
  induction k with
  | zero => unfold lb; omega
  | succ k ih => unfold lb; split <;> omega
theorem lb_ok {S : IT} {p s : Int} : ∀ k, ¬ lb S p s k = -1 → szo S (lb S p s k).toNat s < 3 := by
  intro k
  induction k with
  | zero => intro h; exact absurd rfl h
  | succ k ih =>
    intro h
    unfold lb at h ⊢
    by_cases e : szo S k s < 3 ∧ fl9 S k p < 1000000 ∧ (lb S p s k = -1 ∨ fl9 S k p < fl9 S (lb S p s k).toNat p)
    · rw [if_pos e]; exact e.1
    · rw [if_neg e] at h ⊢; exact ih h
/-- ways lead back -/
def V1 (S : IT) : Prop := ∀ a b : Nat, a < 12 → b < 12 → S 28 0 (12 * a + b) = S 28 0 (12 * b + a)
def shl (S : IT) (p b : Int) : Int := if b = -1 then -1 else fl9 S b.toNat p

theorem k65_0 {fs : List fr} {I : IT} {cc : Nat → Option Nat} {n c z : Nat} {out : oP} {l : Int} {s : Int} (h : Rn 65 2 [some (vr 27 0), some (vi l), some (vi s), some (vi s)] [] (fs) I (Cs cc) n c z out) : Rn 65 0 [some (vr 27 0), some (vi l), some (vi s), none] [] (fs) I (Cs cc) n c z out :=
  (Rn.iload_n (pc2 := 1) rfl rfl rfl (Rn.istore_n (pc2 := 2) (ls2 := [some (vr 27 0), some (vi l), some (vi s), some (vi s)]) rfl rfl rfl h))

theorem k65_2 {fs : List fr} {I : IT} {cc : Nat → Option Nat} {n c z : Nat} {out : oP} {l : Int} {s : Int} {its : Int} (h : ((its < 3) → ((0 ≤ (wr ((wr (3 * l)) + its)) ∧ (wr ((wr (3 * l)) + its)) < 18) ∧ ((((I 49 0 (Int.toNat (wr ((wr (3 * l)) + its)))) = 0) → (Rn 65 2 [some (vr 27 0), some (vi l), some (vi s), some (vi (wr (its + 1)))] [] (fs) I (Cs cc) n c z out)) ∧ (¬ ((I 49 0 (Int.toNat (wr ((wr (3 * l)) + its)))) = 0) → (Rf (Sum.inl (some (vi its))) fs I (Cs cc) n c z out))))) ∧ (¬ (its < 3) → (Rf (Sum.inl (some (vi its))) fs I (Cs cc) n c z out))) : Rn 65 2 [some (vr 27 0), some (vi l), some (vi s), some (vi its)] [] (fs) I (Cs cc) n c z out :=
  (Rn.iload_n (pc2 := 3) rfl rfl rfl (Rn.iconst (pc2 := 4) rfl rfl (Rn.ic_ge (pc2 := 7) rfl rfl (fun q18 => (Rn.aload_n (pc2 := 8) rfl rfl rfl (Rn.getR (pc2 := 11) (q := (some (49, 0))) rfl rfl rfl rfl rfl (Rn.iconst (pc2 := 12) rfl rfl (Rn.iload_n (pc2 := 13) rfl rfl rfl (Rn.imul (pc2 := 14) rfl rfl (Rn.iload_n (pc2 := 15) rfl rfl rfl (Rn.iadd (pc2 := 16) rfl rfl (Rn.iald (pc2 := 17) (L := 18) rfl rfl rfl (h.1 q18).1 rfl (Rn.iz_ne (pc2 := 20) rfl rfl (fun q19 => (Rn.iinc (pc2 := 23) (ls2 := [some (vr 27 0), some (vi l), some (vi s), some (vi (wr (its + 1)))]) rfl rfl rfl rfl (Rn.goto rfl ((h.1 q18).2.1 q19)))) (fun q19 => (Rn.iload_n (pc2 := 27) rfl rfl rfl (Rn.iret rfl rfl ((h.1 q18).2.2 q19)))))))))))))) (fun q18 => (Rn.iload_n (pc2 := 27) rfl rfl rfl (Rn.iret rfl rfl (h.2 q18)))))))

theorem k111_0 {fs : List fr} {I : IT} {cc : Nat → Option Nat} {n c z : Nat} {out : oP} {l : Nat} {s : Int} (h : Rn 111 6 [some (vr 24 l), some (vi s), some (vi (mxI s 0))] [] (fs) I (Cs cc) n c z out) : Rn 111 0 [some (vr 24 l), some (vi s), none] [] (fs) I (Cs cc) n c z out :=
  (Rn.iload_n (pc2 := 1) rfl rfl rfl (Rn.iconst (pc2 := 2) rfl rfl (Rn.mmax (pc2 := 5) rfl rfl rfl rfl (Rn.istore_n (pc2 := 6) (ls2 := [some (vr 24 l), some (vi s), some (vi (mxI s 0))]) rfl rfl rfl h))))

theorem k111_6 {fs : List fr} {I : IT} {cc : Nat → Option Nat} {n c z : Nat} {out : oP} {l : Nat} {s : Int} {i : Int} (h : ((i < 3) → ((0 ≤ i ∧ i < 3) ∧ (((0 < (I 25 l (Int.toNat i))) → (Rf (Sum.inl (some (vi i))) fs I (Cs cc) n c z out)) ∧ (¬ (0 < (I 25 l (Int.toNat i))) → (Rn 111 6 [some (vr 24 l), some (vi s), some (vi (wr (i + 1)))] [] (fs) I (Cs cc) n c z out))))) ∧ (¬ (i < 3) → (Rf (Sum.inl (some (vi (-1)))) fs I (Cs cc) n c z out))) : Rn 111 6 [some (vr 24 l), some (vi s), some (vi i)] [] (fs) I (Cs cc) n c z out :=
  (Rn.iload_n (pc2 := 7) rfl rfl rfl (Rn.iconst (pc2 := 8) rfl rfl (Rn.ic_ge (pc2 := 11) rfl rfl (fun q20 => (Rn.aload_n (pc2 := 12) rfl rfl rfl (Rn.getR (pc2 := 15) (q := (some (25, l))) rfl rfl rfl rfl rfl (Rn.iload_n (pc2 := 16) rfl rfl rfl (Rn.iald (pc2 := 17) (L := 3) rfl rfl rfl (h.1 q20).1 rfl (Rn.iz_le (pc2 := 20) rfl rfl (fun q21 => (Rn.iload_n (pc2 := 21) rfl rfl rfl (Rn.iret rfl rfl ((h.1 q20).2.1 q21)))) (fun q21 => (Rn.iinc (pc2 := 25) (ls2 := [some (vr 24 l), some (vi s), some (vi (wr (i + 1)))]) rfl rfl rfl rfl (Rn.goto rfl ((h.1 q20).2.2 q21)))))))))) (fun q20 => (Rn.iconst (pc2 := 29) rfl rfl (Rn.iret rfl rfl (h.2 q20)))))))

theorem k66_0 {fs : List fr} {I : IT} {cc : Nat → Option Nat} {n c z : Nat} {out : oP} {p : Int} {s : Int} (h : Rn 66 5 [some (vr 27 0), some (vi p), some (vi s), some (vi (-1)), some (vi 0), none, none] [] (fs) I (Cs cc) n c z out) : Rn 66 0 [some (vr 27 0), some (vi p), some (vi s), none, none, none, none] [] (fs) I (Cs cc) n c z out :=
  (Rn.iconst (pc2 := 1) rfl rfl (Rn.istore_n (pc2 := 2) (ls2 := [some (vr 27 0), some (vi p), some (vi s), some (vi (-1)), none, none, none]) rfl rfl rfl (Rn.iconst (pc2 := 3) rfl rfl (Rn.istore (pc2 := 5) (ls2 := [some (vr 27 0), some (vi p), some (vi s), some (vi (-1)), some (vi 0), none, none]) rfl rfl rfl h))))

theorem k66_5 {fs : List fr} {I : IT} {cc : Nat → Option Nat} {n c z : Nat} {out : oP} {p : Int} {s : Int} {best : Int} {k : Int} {x5 : Option av} {x6 : Option av} (h : ((k < (I 27 0 27)) → ((0 ≤ k ∧ k < 6) ∧ ((0 ≤ (wr ((wr (12 * p)) + (I 48 0 (Int.toNat k)))) ∧ (wr ((wr (12 * p)) + (I 48 0 (Int.toNat k)))) < 144) ∧ (Rn 65 0 [some (vr 27 0), some (vi k), some (vi s), none] [] ((66, 37, [some (vr 27 0), some (vi p), some (vi s), some (vi best), some (vi k), some (vi (I 28 0 (Int.toNat (wr ((wr (12 * p)) + (I 48 0 (Int.toNat k))))))), x6], []) :: fs) I (Cs cc) n c z out)))) ∧ (¬ (k < (I 27 0 27)) → (Rf (Sum.inl (some (vi best))) fs I (Cs cc) n c z out))) : Rn 66 5 [some (vr 27 0), some (vi p), some (vi s), some (vi best), some (vi k), x5, x6] [] (fs) I (Cs cc) n c z out :=
  (Rn.iload (pc2 := 7) rfl rfl rfl (Rn.aload_n (pc2 := 8) rfl rfl rfl (Rn.getI (pc2 := 11) rfl rfl rfl rfl (Rn.ic_ge (pc2 := 14) rfl rfl (fun q22 => (Rn.aload_n (pc2 := 15) rfl rfl rfl (Rn.getR (pc2 := 18) (q := (some (28, 0))) rfl rfl rfl rfl rfl (Rn.bipush (pc2 := 20) rfl rfl (Rn.iload_n (pc2 := 21) rfl rfl rfl (Rn.imul (pc2 := 22) rfl rfl (Rn.aload_n (pc2 := 23) rfl rfl rfl (Rn.getR (pc2 := 26) (q := (some (48, 0))) rfl rfl rfl rfl rfl (Rn.iload (pc2 := 28) rfl rfl rfl (Rn.iald (pc2 := 29) (L := 6) rfl rfl rfl (h.1 q22).1 rfl (Rn.iadd (pc2 := 30) rfl rfl (Rn.iald (pc2 := 31) (L := 144) rfl rfl rfl (h.1 q22).2.1 rfl (Rn.istore (pc2 := 33) (ls2 := [some (vr 27 0), some (vi p), some (vi s), some (vi best), some (vi k), some (vi (I 28 0 (Int.toNat (wr ((wr (12 * p)) + (I 48 0 (Int.toNat k))))))), x6]) rfl rfl rfl (Rn.aload_n (pc2 := 34) rfl rfl rfl (Rn.iload (pc2 := 36) rfl rfl rfl (Rn.iload_n (pc2 := 37) rfl rfl rfl (Rn.ivir (as := [vi k, vi s]) (r := []) (ls2 := [some (vr 27 0), some (vi k), some (vi s), none]) (f := 27) (i := 0) rfl rfl rfl rfl rfl rfl rfl (h.1 q22).2.2))))))))))))))))) (fun q22 => (Rn.iload_n (pc2 := 103) rfl rfl rfl (Rn.iret rfl rfl (h.2 q22))))))))

theorem k66_40 {fs : List fr} {I : IT} {cc : Nat → Option Nat} {n c z : Nat} {out : oP} {p : Int} {s : Int} {best : Int} {k : Int} {bw : Int} {x6 : Option av} {v : Int} (h : ((v < 3) → (((bw < 1000000) → (((best = (-1)) → (Rn 66 5 [some (vr 27 0), some (vi p), some (vi s), some (vi k), some (vi (wr (k + 1))), some (vi bw), some (vi 1)] [] (fs) I (Cs cc) n c z out)) ∧ (¬ (best = (-1)) → ((0 ≤ best ∧ best < 6) ∧ ((0 ≤ (wr ((wr (12 * p)) + (I 48 0 (Int.toNat best)))) ∧ (wr ((wr (12 * p)) + (I 48 0 (Int.toNat best)))) < 144) ∧ (((bw < (I 28 0 (Int.toNat (wr ((wr (12 * p)) + (I 48 0 (Int.toNat best))))))) → (Rn 66 5 [some (vr 27 0), some (vi p), some (vi s), some (vi k), some (vi (wr (k + 1))), some (vi bw), some (vi 1)] [] (fs) I (Cs cc) n c z out)) ∧ (¬ (bw < (I 28 0 (Int.toNat (wr ((wr (12 * p)) + (I 48 0 (Int.toNat best))))))) → (Rn 66 5 [some (vr 27 0), some (vi p), some (vi s), some (vi best), some (vi (wr (k + 1))), some (vi bw), some (vi 1)] [] (fs) I (Cs cc) n c z out)))))))) ∧ (¬ (bw < 1000000) → (Rn 66 5 [some (vr 27 0), some (vi p), some (vi s), some (vi best), some (vi (wr (k + 1))), some (vi bw), some (vi 0)] [] (fs) I (Cs cc) n c z out)))) ∧ (¬ (v < 3) → (Rn 66 5 [some (vr 27 0), some (vi p), some (vi s), some (vi best), some (vi (wr (k + 1))), some (vi bw), some (vi 0)] [] (fs) I (Cs cc) n c z out))) : Rn 66 40 [some (vr 27 0), some (vi p), some (vi s), some (vi best), some (vi k), some (vi bw), x6] [vi v] (fs) I (Cs cc) n c z out :=
  (Rn.iconst (pc2 := 41) rfl rfl (Rn.ic_ge (pc2 := 44) rfl rfl (fun q23 => (Rn.iload (pc2 := 46) rfl rfl rfl (Rn.ldc (pc2 := 48) (v := 1000000) rfl rfl rfl (Rn.ic_ge (pc2 := 51) rfl rfl (fun q24 => (Rn.iconst (pc2 := 52) rfl rfl (Rn.goto rfl (Rn.istore (pc2 := 58) (ls2 := [some (vr 27 0), some (vi p), some (vi s), some (vi best), some (vi k), some (vi bw), some (vi 1)]) rfl rfl rfl (Rn.iload (pc2 := 60) rfl rfl rfl (Rn.iz_eq (pc2 := 63) rfl rfl (fun q => absurd q (show (¬ ((1 : Int) = 0)) by decide)) (fun _ =>  (Rn.iload_n (pc2 := 64) rfl rfl rfl (Rn.iconst (pc2 := 65) rfl rfl (Rn.ic_eq (pc2 := 68) rfl rfl (fun q25 => (Rn.iload (pc2 := 91) rfl rfl rfl (Rn.goto rfl (Rn.istore_n (pc2 := 96) (ls2 := [some (vr 27 0), some (vi p), some (vi s), some (vi k), some (vi k), some (vi bw), some (vi 1)]) rfl rfl rfl (Rn.iinc (pc2 := 99) (ls2 := [some (vr 27 0), some (vi p), some (vi s), some (vi k), some (vi (wr (k + 1))), some (vi bw), some (vi 1)]) rfl rfl rfl rfl (Rn.goto rfl (((h.1 q23).1 q24).1 q25))))))) (fun q25 => (Rn.iload (pc2 := 70) rfl rfl rfl (Rn.aload_n (pc2 := 71) rfl rfl rfl (Rn.getR (pc2 := 74) (q := (some (28, 0))) rfl rfl rfl rfl rfl (Rn.bipush (pc2 := 76) rfl rfl (Rn.iload_n (pc2 := 77) rfl rfl rfl (Rn.imul (pc2 := 78) rfl rfl (Rn.aload_n (pc2 := 79) rfl rfl rfl (Rn.getR (pc2 := 82) (q := (some (48, 0))) rfl rfl rfl rfl rfl (Rn.iload_n (pc2 := 83) rfl rfl rfl (Rn.iald (pc2 := 84) (L := 6) rfl rfl rfl (((h.1 q23).1 q24).2 q25).1 rfl (Rn.iadd (pc2 := 85) rfl rfl (Rn.iald (pc2 := 86) (L := 144) rfl rfl rfl (((h.1 q23).1 q24).2 q25).2.1 rfl (Rn.ic_ge (pc2 := 89) rfl rfl (fun q26 => (Rn.iload (pc2 := 91) rfl rfl rfl (Rn.goto rfl (Rn.istore_n (pc2 := 96) (ls2 := [some (vr 27 0), some (vi p), some (vi s), some (vi k), some (vi k), some (vi bw), some (vi 1)]) rfl rfl rfl (Rn.iinc (pc2 := 99) (ls2 := [some (vr 27 0), some (vi p), some (vi s), some (vi k), some (vi (wr (k + 1))), some (vi bw), some (vi 1)]) rfl rfl rfl rfl (Rn.goto rfl ((((h.1 q23).1 q24).2 q25).2.2.1 q26))))))) (fun q26 => (Rn.iload_n (pc2 := 95) rfl rfl rfl (Rn.istore_n (pc2 := 96) (ls2 := [some (vr 27 0), some (vi p), some (vi s), some (vi best), some (vi k), some (vi bw), some (vi 1)]) rfl rfl rfl (Rn.iinc (pc2 := 99) (ls2 := [some (vr 27 0), some (vi p), some (vi s), some (vi best), some (vi (wr (k + 1))), some (vi bw), some (vi 1)]) rfl rfl rfl rfl (Rn.goto rfl ((((h.1 q23).1 q24).2 q25).2.2.2 q26)))))))))))))))))))))))))))))) (fun q24 => (Rn.iconst (pc2 := 56) rfl rfl (Rn.istore (pc2 := 58) (ls2 := [some (vr 27 0), some (vi p), some (vi s), some (vi best), some (vi k), some (vi bw), some (vi 0)]) rfl rfl rfl (Rn.iload (pc2 := 60) rfl rfl rfl (Rn.iz_eq (pc2 := 63) rfl rfl (fun _ =>  (Rn.iload_n (pc2 := 95) rfl rfl rfl (Rn.istore_n (pc2 := 96) (ls2 := [some (vr 27 0), some (vi p), some (vi s), some (vi best), some (vi k), some (vi bw), some (vi 0)]) rfl rfl rfl (Rn.iinc (pc2 := 99) (ls2 := [some (vr 27 0), some (vi p), some (vi s), some (vi best), some (vi (wr (k + 1))), some (vi bw), some (vi 0)]) rfl rfl rfl rfl (Rn.goto rfl ((h.1 q23).2 q24)))))) (fun q => absurd (show ((0 : Int) = 0) by decide) q)))))))))) (fun q23 => (Rn.iconst (pc2 := 56) rfl rfl (Rn.istore (pc2 := 58) (ls2 := [some (vr 27 0), some (vi p), some (vi s), some (vi best), some (vi k), some (vi bw), some (vi 0)]) rfl rfl rfl (Rn.iload (pc2 := 60) rfl rfl rfl (Rn.iz_eq (pc2 := 63) rfl rfl (fun _ =>  (Rn.iload_n (pc2 := 95) rfl rfl rfl (Rn.istore_n (pc2 := 96) (ls2 := [some (vr 27 0), some (vi p), some (vi s), some (vi best), some (vi k), some (vi bw), some (vi 0)]) rfl rfl rfl (Rn.iinc (pc2 := 99) (ls2 := [some (vr 27 0), some (vi p), some (vi s), some (vi best), some (vi (wr (k + 1))), some (vi bw), some (vi 0)]) rfl rfl rfl rfl (Rn.goto rfl (h.2 q23)))))) (fun q => absurd (show ((0 : Int) = 0) by decide) q))))))))

theorem k85_0 {fs : List fr} {I : IT} {cc : Nat → Option Nat} {n c z : Nat} {out : oP} {s : Int} {p : Int} (h : Rn 85 9 [some (vr 21 0), some (vi s), some (vi p), some (vr 1 0), some (vi (-1)), some (vi (-1)), some (vi 0), none, none] [] (fs) I (Cs cc) n c z out) : Rn 85 0 [some (vr 21 0), some (vi s), some (vi p), some (vr 1 0), none, none, none, none, none] [] (fs) I (Cs cc) n c z out :=
  (Rn.iconst (pc2 := 1) rfl rfl (Rn.istore (pc2 := 3) (ls2 := [some (vr 21 0), some (vi s), some (vi p), some (vr 1 0), some (vi (-1)), none, none, none, none]) rfl rfl rfl (Rn.iconst (pc2 := 4) rfl rfl (Rn.istore (pc2 := 6) (ls2 := [some (vr 21 0), some (vi s), some (vi p), some (vr 1 0), some (vi (-1)), some (vi (-1)), none, none, none]) rfl rfl rfl (Rn.iconst (pc2 := 7) rfl rfl (Rn.istore (pc2 := 9) (ls2 := [some (vr 21 0), some (vi s), some (vi p), some (vr 1 0), some (vi (-1)), some (vi (-1)), some (vi 0), none, none]) rfl rfl rfl h))))))

theorem k85_9 {fs : List fr} {I : IT} {cc : Nat → Option Nat} {n c z : Nat} {out : oP} {s : Int} {p : Int} {near : Int} {short : Int} {i : Int} {x7 : Option av} {x8 : Option av} (h : ((i < (I 21 0 0)) → ((0 ≤ i ∧ i < 6) ∧ (Rn 116 0 [some (vr 1 0), some (vi (I 24 (Int.toNat i) 0)), some (vi p)] [] ((85, 30, [some (vr 21 0), some (vi s), some (vi p), some (vr 1 0), some (vi near), some (vi short), some (vi i), x7, x8], []) :: fs) I (Cs cc) n c z out))) ∧ (¬ (i < (I 21 0 0)) → (Rf (Sum.inl (some (vi near))) fs I (Cs cc) n c z out))) : Rn 85 9 [some (vr 21 0), some (vi s), some (vi p), some (vr 1 0), some (vi near), some (vi short), some (vi i), x7, x8] [] (fs) I (Cs cc) n c z out :=
  (Rn.iload (pc2 := 11) rfl rfl rfl (Rn.aload_n (pc2 := 12) rfl rfl rfl (Rn.getI (pc2 := 15) rfl rfl rfl rfl (Rn.ic_ge (pc2 := 18) rfl rfl (fun q27 => (Rn.aload_n (pc2 := 19) rfl rfl rfl (Rn.aload_n (pc2 := 20) rfl rfl rfl (Rn.getR (pc2 := 23) (q := (some (22, 0))) rfl rfl rfl rfl rfl (Rn.iload (pc2 := 25) rfl rfl rfl (Rn.aald (pc2 := 26) (L := 6) (q := (some (24, (Int.toNat i)))) rfl rfl rfl rfl (h.1 q27).1 rfl rfl (Rn.getI (pc2 := 29) rfl rfl rfl rfl (Rn.iload_n (pc2 := 30) rfl rfl rfl (Rn.ivir (as := [vi (I 24 (Int.toNat i) 0), vi p]) (r := []) (ls2 := [some (vr 1 0), some (vi (I 24 (Int.toNat i) 0)), some (vi p)]) (f := 1) (i := 0) rfl rfl rfl rfl rfl rfl rfl (h.1 q27).2))))))))) (fun q27 => (Rn.iload (pc2 := 97) rfl rfl rfl (Rn.iret rfl rfl (h.2 q27))))))))

theorem k85_33 {fs : List fr} {I : IT} {cc : Nat → Option Nat} {n c z : Nat} {out : oP} {s : Int} {p : Int} {near : Int} {short : Int} {i : Int} {x7 : Option av} {x8 : Option av} {v : Int} (h : ((v = (-1)) → (Rn 85 9 [some (vr 21 0), some (vi s), some (vi p), some (vr 1 0), some (vi near), some (vi short), some (vi (wr (i + 1))), some (vi v), some (vi 0)] [] (fs) I (Cs cc) n c z out)) ∧ (¬ (v = (-1)) → ((0 ≤ i ∧ i < 6) ∧ (Rn 111 0 [some (vr 24 (Int.toNat i)), some (vi s), none] [] ((85, 49, [some (vr 21 0), some (vi s), some (vi p), some (vr 1 0), some (vi near), some (vi short), some (vi i), some (vi v), x8], []) :: fs) I (Cs cc) n c z out)))) : Rn 85 33 [some (vr 21 0), some (vi s), some (vi p), some (vr 1 0), some (vi near), some (vi short), some (vi i), x7, x8] [vi v] (fs) I (Cs cc) n c z out :=
  (Rn.istore (pc2 := 35) (ls2 := [some (vr 21 0), some (vi s), some (vi p), some (vr 1 0), some (vi near), some (vi short), some (vi i), some (vi v), x8]) rfl rfl rfl (Rn.iload (pc2 := 37) rfl rfl rfl (Rn.iconst (pc2 := 38) rfl rfl (Rn.ic_eq (pc2 := 41) rfl rfl (fun q28 => (Rn.iconst (pc2 := 61) rfl rfl (Rn.istore (pc2 := 63) (ls2 := [some (vr 21 0), some (vi s), some (vi p), some (vr 1 0), some (vi near), some (vi short), some (vi i), some (vi v), some (vi 0)]) rfl rfl rfl (Rn.iload (pc2 := 65) rfl rfl rfl (Rn.iz_eq (pc2 := 68) rfl rfl (fun _ =>  (Rn.iinc (pc2 := 92) (ls2 := [some (vr 21 0), some (vi s), some (vi p), some (vr 1 0), some (vi near), some (vi short), some (vi (wr (i + 1))), some (vi v), some (vi 0)]) rfl rfl rfl rfl (Rn.goto rfl (h.1 q28)))) (fun q => absurd (show ((0 : Int) = 0) by decide) q)))))) (fun q28 => (Rn.aload_n (pc2 := 42) rfl rfl rfl (Rn.getR (pc2 := 45) (q := (some (22, 0))) rfl rfl rfl rfl rfl (Rn.iload (pc2 := 47) rfl rfl rfl (Rn.aald (pc2 := 48) (L := 6) (q := (some (24, (Int.toNat i)))) rfl rfl rfl rfl (h.2 q28).1 rfl rfl (Rn.iload_n (pc2 := 49) rfl rfl rfl (Rn.ivir (as := [vi s]) (r := []) (ls2 := [some (vr 24 (Int.toNat i)), some (vi s), none]) (f := 24) (i := (Int.toNat i)) rfl rfl rfl rfl rfl rfl rfl (h.2 q28).2)))))))))))

theorem k85_52 {fs : List fr} {I : IT} {cc : Nat → Option Nat} {n c z : Nat} {out : oP} {s : Int} {p : Int} {near : Int} {short : Int} {i : Int} {w : Int} {x8 : Option av} {v : Int} (h : ((v = (-1)) → (Rn 85 9 [some (vr 21 0), some (vi s), some (vi p), some (vr 1 0), some (vi near), some (vi short), some (vi (wr (i + 1))), some (vi w), some (vi 0)] [] (fs) I (Cs cc) n c z out)) ∧ (¬ (v = (-1)) → (((near = (-1)) → (Rn 85 9 [some (vr 21 0), some (vi s), some (vi p), some (vr 1 0), some (vi i), some (vi w), some (vi (wr (i + 1))), some (vi w), some (vi 1)] [] (fs) I (Cs cc) n c z out)) ∧ (¬ (near = (-1)) → (((w < short) → (Rn 85 9 [some (vr 21 0), some (vi s), some (vi p), some (vr 1 0), some (vi i), some (vi w), some (vi (wr (i + 1))), some (vi w), some (vi 1)] [] (fs) I (Cs cc) n c z out)) ∧ (¬ (w < short) → (Rn 85 9 [some (vr 21 0), some (vi s), some (vi p), some (vr 1 0), some (vi near), some (vi short), some (vi (wr (i + 1))), some (vi w), some (vi 1)] [] (fs) I (Cs cc) n c z out))))))) : Rn 85 52 [some (vr 21 0), some (vi s), some (vi p), some (vr 1 0), some (vi near), some (vi short), some (vi i), some (vi w), x8] [vi v] (fs) I (Cs cc) n c z out :=
  (Rn.iconst (pc2 := 53) rfl rfl (Rn.ic_eq (pc2 := 56) rfl rfl (fun q29 => (Rn.iconst (pc2 := 61) rfl rfl (Rn.istore (pc2 := 63) (ls2 := [some (vr 21 0), some (vi s), some (vi p), some (vr 1 0), some (vi near), some (vi short), some (vi i), some (vi w), some (vi 0)]) rfl rfl rfl (Rn.iload (pc2 := 65) rfl rfl rfl (Rn.iz_eq (pc2 := 68) rfl rfl (fun _ =>  (Rn.iinc (pc2 := 92) (ls2 := [some (vr 21 0), some (vi s), some (vi p), some (vr 1 0), some (vi near), some (vi short), some (vi (wr (i + 1))), some (vi w), some (vi 0)]) rfl rfl rfl rfl (Rn.goto rfl (h.1 q29)))) (fun q => absurd (show ((0 : Int) = 0) by decide) q)))))) (fun q29 => (Rn.iconst (pc2 := 57) rfl rfl (Rn.goto rfl (Rn.istore (pc2 := 63) (ls2 := [some (vr 21 0), some (vi s), some (vi p), some (vr 1 0), some (vi near), some (vi short), some (vi i), some (vi w), some (vi 1)]) rfl rfl rfl (Rn.iload (pc2 := 65) rfl rfl rfl (Rn.iz_eq (pc2 := 68) rfl rfl (fun q => absurd q (show (¬ ((1 : Int) = 0)) by decide)) (fun _ =>  (Rn.iload (pc2 := 70) rfl rfl rfl (Rn.iconst (pc2 := 71) rfl rfl (Rn.ic_eq (pc2 := 74) rfl rfl (fun q30 => (Rn.iload (pc2 := 83) rfl rfl rfl (Rn.istore (pc2 := 85) (ls2 := [some (vr 21 0), some (vi s), some (vi p), some (vr 1 0), some (vi i), some (vi short), some (vi i), some (vi w), some (vi 1)]) rfl rfl rfl (Rn.iload (pc2 := 87) rfl rfl rfl (Rn.istore (pc2 := 89) (ls2 := [some (vr 21 0), some (vi s), some (vi p), some (vr 1 0), some (vi i), some (vi w), some (vi i), some (vi w), some (vi 1)]) rfl rfl rfl (Rn.iinc (pc2 := 92) (ls2 := [some (vr 21 0), some (vi s), some (vi p), some (vr 1 0), some (vi i), some (vi w), some (vi (wr (i + 1))), some (vi w), some (vi 1)]) rfl rfl rfl rfl (Rn.goto rfl ((h.2 q29).1 q30)))))))) (fun q30 => (Rn.iload (pc2 := 76) rfl rfl rfl (Rn.iload (pc2 := 78) rfl rfl rfl (Rn.ic_ge (pc2 := 81) rfl rfl (fun q31 => (Rn.iload (pc2 := 83) rfl rfl rfl (Rn.istore (pc2 := 85) (ls2 := [some (vr 21 0), some (vi s), some (vi p), some (vr 1 0), some (vi i), some (vi short), some (vi i), some (vi w), some (vi 1)]) rfl rfl rfl (Rn.iload (pc2 := 87) rfl rfl rfl (Rn.istore (pc2 := 89) (ls2 := [some (vr 21 0), some (vi s), some (vi p), some (vr 1 0), some (vi i), some (vi w), some (vi i), some (vi w), some (vi 1)]) rfl rfl rfl (Rn.iinc (pc2 := 92) (ls2 := [some (vr 21 0), some (vi s), some (vi p), some (vr 1 0), some (vi i), some (vi w), some (vi (wr (i + 1))), some (vi w), some (vi 1)]) rfl rfl rfl rfl (Rn.goto rfl (((h.2 q29).2 q30).1 q31)))))))) (fun q31 => (Rn.iinc (pc2 := 92) (ls2 := [some (vr 21 0), some (vi s), some (vi p), some (vr 1 0), some (vi near), some (vi short), some (vi (wr (i + 1))), some (vi w), some (vi 1)]) rfl rfl rfl rfl (Rn.goto rfl (((h.2 q29).2 q30).2 q31))))))))))))))))))))

theorem m_size_l {fs : List fr} {I : IT} {cc : Nat → Option Nat} {n c z : Nat} {out : oP} {l : Nat} (hl : l < 6) {s : Int} : ∀ d i : Nat, i + d = 3 → Rf (Sum.inl (some (vi (sz I l d i)))) fs I (Cs cc) n c z out → Rn 65 2 [some (vr 27 0), some (vi (l : Int)), some (vi s), some (vi (i : Int))] [] fs I (Cs cc) n c z out := by
  intro d
  induction d with
  | zero =>
    intro i hi h
    exact k65_2 ⟨fun h1 => by omega, fun h1 => h⟩
  | succ d ih =>
    intro i hi h
    have nx := ih (i + 1) (by omega)
    refine k65_2 ⟨fun h1 => ?_, fun h1 => by omega⟩
    rw [wrI (x := 3 * (l : Int)) (by omega) (by omega), wrI (x := 3 * (l : Int) + (i : Int)) (by omega) (by omega), show (3 * (l : Int) + (i : Int)).toNat = 3 * l + i by omega, wrI (x := (i : Int) + 1) (by omega) (by omega), nS]
    refine ⟨by omega, fun h2 => ?_, fun h2 => ?_⟩
    · rw [show sz I l (d + 1) i = sz I l d (i + 1) from if_pos h2] at h; exact nx h
    · rw [show sz I l (d + 1) i = (i : Int) from if_neg h2] at h; exact h
theorem m_size {fs : List fr} {I : IT} {cc : Nat → Option Nat} {n c z : Nat} {out : oP} {l : Nat} (hl : l < 6) {s : Int} (h0 : 0 ≤ s) (h1 : s ≤ 2) (h : Rf (Sum.inl (some (vi (szo I l s)))) fs I (Cs cc) n c z out) : Rn 65 0 [some (vr 27 0), some (vi (l : Int)), some (vi s), none] [] fs I (Cs cc) n c z out := by
  have e : s = ((s.toNat : Nat) : Int) := by omega
  have l1 := m_size_l (cc := cc) (n := n) (c := c) (z := z) (fs := fs) (out := out) (I := I) hl (s := s) (3 - s.toNat) s.toNat (by omega) h
  rw [← e] at l1
  exact k65_0 l1
theorem c_size_l {fs : List fr} {I S : IT} {cc : Nat → Option Nat} {n c z : Nat} {out : oP} {l : Nat} (r : ∀ j : Nat, j < 3 → I 25 l j = S 49 0 (3 * l + j)) (hv : ∀ k : Nat, k < 18 → 0 ≤ S 49 0 k) (hl : l < 6) {s : Int} : ∀ d i : Nat, i + d = 3 → Rf (Sum.inl (some (vi (if sz S l d i = 3 then -1 else sz S l d i)))) fs I (Cs cc) n c z out → Rn 111 6 [some (vr 24 l), some (vi s), some (vi (i : Int))] [] fs I (Cs cc) n c z out := by
  intro d
  induction d with
  | zero =>
    intro i hi h
    refine k111_6 ⟨fun h1 => by omega, fun h1 => ?_⟩
    rw [show sz S l 0 i = (i : Int) from rfl, if_pos (by omega)] at h; exact h
  | succ d ih =>
    intro i hi h
    have nx := ih (i + 1) (by omega)
    have v := hv (3 * l + i) (by omega)
    refine k111_6 ⟨fun h1 => ?_, fun h1 => by omega⟩
    rw [Int.toNat_natCast, r i (by omega), wrI (x := (i : Int) + 1) (by omega) (by omega), nS]
    refine ⟨by omega, fun h2 => ?_, fun h2 => ?_⟩
    · rw [show sz S l (d + 1) i = (i : Int) from if_neg (by omega), if_neg (by omega)] at h; exact h
    · rw [show sz S l (d + 1) i = sz S l d (i + 1) from if_pos (by omega)] at h; exact nx h
theorem c_size {fs : List fr} {I S : IT} {cc : Nat → Option Nat} {n c z : Nat} {out : oP} {l : Nat} (r : ∀ j : Nat, j < 3 → I 25 l j = S 49 0 (3 * l + j)) (hv : ∀ k : Nat, k < 18 → 0 ≤ S 49 0 k) (hl : l < 6) {s : Int} (h0 : 0 ≤ s) (h1 : s ≤ 2) (h : Rf (Sum.inl (some (vi (if szo S l s = 3 then -1 else szo S l s)))) fs I (Cs cc) n c z out) : Rn 111 0 [some (vr 24 l), some (vi s), none] [] fs I (Cs cc) n c z out := by
  refine k111_0 ?_
  rw [show mxI s 0 = ((s.toNat : Nat) : Int) by unfold mxI; split <;> omega]
  exact c_size_l r hv hl _ _ (by omega) h
theorem m_lock_l {fs : List fr} {I : IT} {cc : Nat → Option Nat} {n c z : Nat} {out : oP} (V : VD I) {p s : Int} (hp0 : 0 ≤ p) (hp1 : p < 12) (h0 : 0 ≤ s) (h1 : s ≤ 2) (h : Rf (Sum.inl (some (vi (lb I p s (I 27 0 27).toNat)))) fs I (Cs cc) n c z out) : ∀ (d k : Nat) (x5 x6 : Option av), k + d = (I 27 0 27).toNat → Rn 66 5 [some (vr 27 0), some (vi p), some (vi s), some (vi (lb I p s k)), some (vi (k : Int)), x5, x6] [] fs I (Cs cc) n c z out := by
  obtain ⟨v1, v2, v3, v4, v5, v6, v7, v8⟩ := V
  intro d
  induction d with
  | zero =>
    intro k x5 x6 hk
    refine k66_5 ⟨fun h1 => by omega, fun h1 => ?_⟩
    rw [show k = (I 27 0 27).toNat by omega]; exact h
  | succ d ih =>
    intro k x5 x6 hk
    have nx := fun x5 x6 => ih (k + 1) x5 x6 (by omega)
    obtain ⟨a1, a2⟩ := v7 k (by omega)
    have hb := lb_in (S := I) (p := p) (s := s) k
    refine k66_5 ⟨fun h2 => ?_, fun h2 => by omega⟩
    simp (disch := omega) only [wrI, Int.toNat_natCast, nS, tn2]
    refine ⟨by omega, by omega, m_size (by omega) h0 h1 (Rf.sm (pc2 := 40) rfl (k66_40 ?_))⟩
    simp (disch := omega) only [wrI (x := (k : Int) + 1), wrN, Int.toNat_natCast, nS]
    refine ⟨fun h3 => ⟨fun h4 => ⟨fun h5 => ?_, fun h5 => ?_⟩, fun h4 => ?_⟩, fun h3 => ?_⟩
    · have e : lb I p s (k + 1) = (k : Int) := if_pos ⟨h3, h4, Or.inl h5⟩
      have nx1 := nx (some (vi (fl9 I k p))) (some (vi 1))
      rw [e] at nx1; exact nx1
    · obtain ⟨b1, b2⟩ := v7 (lb I p s k).toNat (by omega)
      simp (disch := omega) only [wrI (x := 12 * p), wrI (x := 12 * p + _), tn2]
      refine ⟨by omega, by omega, fun h6 => ?_, fun h6 => ?_⟩
      · have e : lb I p s (k + 1) = (k : Int) := if_pos ⟨h3, h4, Or.inr h6⟩
        have nx1 := nx (some (vi (fl9 I k p))) (some (vi 1))
        rw [e] at nx1; exact nx1
      · have e : lb I p s (k + 1) = lb I p s k := if_neg (fun g => g.2.2.elim h5 h6)
        have nx1 := nx (some (vi (fl9 I k p))) (some (vi 1))
        rw [e] at nx1; exact nx1
    · have e : lb I p s (k + 1) = lb I p s k := if_neg (fun g => h4 g.2.1)
      have nx1 := nx (some (vi (fl9 I k p))) (some (vi 0))
      rw [e] at nx1; exact nx1
    · have e : lb I p s (k + 1) = lb I p s k := if_neg (fun g => h3 g.1)
      have nx1 := nx (some (vi (fl9 I k p))) (some (vi 0))
      rw [e] at nx1; exact nx1
theorem m_lock {fs : List fr} {I : IT} {cc : Nat → Option Nat} {n c z : Nat} {out : oP} (V : VD I) {p s : Int} (hp0 : 0 ≤ p) (hp1 : p < 12) (h0 : 0 ≤ s) (h1 : s ≤ 2) (h : Rf (Sum.inl (some (vi (lb I p s (I 27 0 27).toNat)))) fs I (Cs cc) n c z out) : Rn 66 0 [some (vr 27 0), some (vi p), some (vi s), none, none, none, none] [] fs I (Cs cc) n c z out :=
  k66_0 (m_lock_l V hp0 hp1 h0 h1 h (I 27 0 27).toNat 0 none none (by omega))
theorem c_lock_l {fs : List fr} {I S : IT} {cc : Nat → Option Nat} {n c z : Nat} {out : oP} (R : RD I S) (RAh : RA I S) (V : VD S) (v0 : V0 S) (vs : V1 S) {p s : Int} (hp0 : 0 ≤ p) (hp1 : p < S 27 0 1) (h0 : 0 ≤ s) (h1 : s ≤ 2) (h : Rf (Sum.inl (some (vi (lb S p s (S 27 0 27).toNat)))) fs I (Cs cc) n c z out) : ∀ (d k : Nat) (x7 x8 : Option av), k + d = (S 27 0 27).toNat → Rn 85 9 [some (vr 21 0), some (vi s), some (vi p), some (vr 1 0), some (vi (lb S p s k)), some (vi (shl S p (lb S p s k))), some (vi (k : Int)), x7, x8] [] fs I (Cs cc) n c z out := by
  have V9 := V
  obtain ⟨v1, v2, v3, v4, v5, v6, v7, v8⟩ := V
  have R9 := R
  obtain ⟨r1, r2, r3, r4⟩ := R
  intro d
  induction d with
  | zero =>
    intro k x7 x8 hk
    refine k85_9 ⟨fun h1 => by omega, fun h1 => ?_⟩
    rw [show k = (S 27 0 27).toNat by omega]; exact h
  | succ d ih =>
    intro k x7 x8 hk
    have nx := fun x7 x8 => ih (k + 1) x7 x8 (by omega)
    have hkl : (k : Int) < S 27 0 27 := by omega
    obtain ⟨a1, a2⟩ := v7 k hkl
    have b2 := ((r3 k (by omega)).1 hkl).1
    have hb := lb_in (S := S) (p := p) (s := s) k
    have hfr : fl9 S k p = S 28 0 (12 * (S 48 0 k).toNat + p.toNat) := vs p.toNat (S 48 0 k).toNat (by omega) (by omega)
    have h00 := v0 (S 48 0 k).toNat p.toNat (by omega) (by omega)
    refine k85_9 ⟨fun h9 => ⟨by omega, ?_⟩, fun h9 => by omega⟩
    rw [Int.toNat_natCast, b2]
    refine c_btw RAh v6 (Rf.sm (pc2 := 33) rfl (k85_33 ?_))
    rw [Int.toNat_natCast, wrI (by omega) (by omega), nS]
    refine ⟨fun h2 => ?_, fun h2 => ⟨by omega, ?_⟩⟩
    · have e : lb S p s (k + 1) = lb S p s k := if_neg (fun g => by
        rw [hfr] at g
        rw [btw_fr a1 a2 hp0 hp1 g.2.1] at h2
        omega)
      have nx1 := nx (some (vi (btw S (S 48 0 k) p))) (some (vi 0))
      rw [e] at nx1; exact nx1
    · have hlt : S 28 0 (12 * (S 48 0 k).toNat + p.toNat) < 1000000 := by
        by_cases g : S 28 0 (12 * (S 48 0 k).toNat + p.toNat) < 1000000
        · exact g
        · exact absurd (if_neg (fun q => g q.2.2.2.2)) h2
      rw [btw_fr a1 a2 hp0 hp1 hlt]
      rw [← hfr] at *
      have hsz := szo_in (S := S) (l := k) h0 h1
      refine c_size (S := S) ((r3 k (by omega)).1 hkl).2 (fun x hx => (V9.2.2.2.2.2.2.2.1 x hx).1) (by omega) h0 h1 (Rf.sm (pc2 := 52) rfl (k85_52 ?_))
      rw [wrI (by omega) (by omega), nS]
      refine ⟨fun h3 => ?_, fun h3 => ⟨fun h4 => ?_, fun h4 => ⟨fun h5 => ?_, fun h5 => ?_⟩⟩⟩
      · have h3 : ¬ szo S k s < 3 := fun g => by rw [if_neg (by omega)] at h3; omega
        have e : lb S p s (k + 1) = lb S p s k := if_neg (fun g => h3 g.1)
        have nx1 := nx (some (vi (fl9 S k p))) (some (vi 0))
        rw [e] at nx1; exact nx1
      · have h3 : szo S k s < 3 := by
          by_cases g : szo S k s = 3
          · rw [if_pos g] at h3; exact absurd rfl h3
          · omega
        have e : lb S p s (k + 1) = (k : Int) := if_pos ⟨h3, hlt, Or.inl h4⟩
        have nx1 := nx (some (vi (fl9 S k p))) (some (vi 1))
        rw [e, show shl S p (k : Int) = fl9 S k p from if_neg (by omega)] at nx1; exact nx1
      · have h3 : szo S k s < 3 := by
          by_cases g : szo S k s = 3
          · rw [if_pos g] at h3; exact absurd rfl h3
          · omega
        have h5 : fl9 S k p < fl9 S (lb S p s k).toNat p := by
          rw [show shl S p (lb S p s k) = fl9 S (lb S p s k).toNat p from if_neg h4] at h5; exact h5
        have e : lb S p s (k + 1) = (k : Int) := if_pos ⟨h3, hlt, Or.inr h5⟩
        have nx1 := nx (some (vi (fl9 S k p))) (some (vi 1))
        rw [e, show shl S p (k : Int) = fl9 S k p from if_neg (by omega)] at nx1; exact nx1
      · have h5 : ¬ fl9 S k p < fl9 S (lb S p s k).toNat p := by
          rw [show shl S p (lb S p s k) = fl9 S (lb S p s k).toNat p from if_neg h4] at h5; exact h5
        have e : lb S p s (k + 1) = lb S p s k := if_neg (fun g => g.2.2.elim h4 h5)
        have nx1 := nx (some (vi (fl9 S k p))) (some (vi 1))
        rw [e] at nx1; exact nx1
theorem c_lock {fs : List fr} {I S : IT} {cc : Nat → Option Nat} {n c z : Nat} {out : oP} (R : RD I S) (RAh : RA I S) (V : VD S) (v0 : V0 S) (vs : V1 S) {p s : Int} (hp0 : 0 ≤ p) (hp1 : p < S 27 0 1) (h0 : 0 ≤ s) (h1 : s ≤ 2) (h : Rf (Sum.inl (some (vi (lb S p s (S 27 0 27).toNat)))) fs I (Cs cc) n c z out) : Rn 85 0 [some (vr 21 0), some (vi s), some (vi p), some (vr 1 0), none, none, none, none, none] [] fs I (Cs cc) n c z out :=
  k85_0 (c_lock_l R RAh V v0 vs hp0 hp1 h0 h1 h (S 27 0 27).toNat 0 none none (by have := V.1; omega))


theorem Cs_up {cc : Nat → Option Nat} {k : Nat} {v : Option Nat} : up3 (Cs cc) 19 k 1 (v.map (fun q => (20, q))) = Cs (fun x => if x = k then v else cc x) := by
  funext f i j
  by_cases h : f = 19 ∧ i = k ∧ j = 1
  · obtain ⟨rfl, rfl, rfl⟩ := h
    rw [up3_eq]
    show _ = Option.map _ (if i = i then v else cc i)
    rw [if_pos rfl]
  · rw [up3_no h]
    by_cases h19 : f = 19
    · subst h19
      by_cases h1 : j = 1
      · subst h1
        show Option.map _ (cc i) = Option.map _ (if i = k then v else cc i)
        rw [if_neg (fun g => h ⟨rfl, g, rfl⟩)]
      · cases j with
        | zero => rfl
        | succ j =>
          cases j with
          | zero => exact absurd rfl h1
          | succ j => rfl
    · unfold Cs
      split <;> first | rfl | exact absurd rfl h19
def ccv : Option Nat → Int
  | none => -1
  | some q => (q : Int)
def RC (I : IT) (cc : Nat → Option Nat) (S : IT) : Prop := I 16 0 0 = S 27 0 14 ∧ I 16 0 1 = S 27 0 18 ∧ (∀ k : Nat, k < 6 → I 19 k 2 = S 38 0 k ∧ ((k : Int) < S 27 0 14 → I 19 k 0 = S 37 0 k ∧ S 39 0 k = ccv (cc k)) ∧ (¬ (k : Int) < S 27 0 14 → cc k = none)) ∧ (∀ q : Nat, q < 40 → ((q : Int) < S 27 0 18 → I 20 q 0 = S 40 0 q ∧ I 20 q 1 = S 41 0 q ∧ I 20 q 2 = S 42 0 q ∧ I 20 q 3 = S 43 0 q ∧ I 20 q 4 = S 44 0 q ∧ I 20 q 5 = S 45 0 q ∧ I 20 q 6 = S 46 0 q ∧ I 20 q 7 = S 47 0 q) ∧ (¬ (q : Int) < S 27 0 18 → I 20 q 2 = 0 ∧ I 20 q 3 = -1 ∧ I 20 q 4 = -1 ∧ I 20 q 5 = -1 ∧ I 20 q 6 = -1 ∧ I 20 q 7 = 0))
theorem RA_ag {I I2 S : IT} (R : RA I S) (h1 : ∀ i j, I2 1 i j = I 1 i j) (h2 : ∀ i j, I2 2 i j = I 2 i j) : RA I2 S := by
  obtain ⟨a, b, d⟩ := R
  exact ⟨by rw [h1]; exact a, by rw [h1]; exact b, fun x y hx hy => by rw [h2]; exact d x y hx hy⟩
theorem RA_agS {I S S2 : IT} (R : RA I S) (h1 : S2 27 0 1 = S 27 0 1) (h2 : S2 27 0 2 = S 27 0 2) (h3 : ∀ i j, S2 28 i j = S 28 i j) : RA I S2 := by
  obtain ⟨a, b, d⟩ := R
  exact ⟨by rw [h1]; exact a, by rw [h2]; exact b, fun x y hx hy => by rw [h3, h1]; exact d x y hx hy⟩
/-- no way is negative -/
def V0 (S : IT) : Prop := ∀ a b : Nat, a < 12 → b < 12 → 0 ≤ S 28 0 (12 * a + b)
theorem nb_ok {S : IT} {p : Int} : ∀ k, ¬ nb S p k = -1 → S 39 0 (nb S p k).toNat = -1 ∧ fr9 S (nb S p k).toNat p < 1000000 := by
  intro k
  induction k with
  | zero => intro h; exact absurd rfl h
  | succ k ih =>
    intro h
    unfold nb at h ⊢
    by_cases e : S 39 0 k = -1 ∧ fr9 S k p < 1000000 ∧ (nb S p k = -1 ∨ fr9 S k p < fr9 S (nb S p k).toNat p)
    · rw [if_pos e]; exact ⟨e.1, e.2.1⟩
    · rw [if_neg e] at h ⊢; exact ih h
theorem btw_fr {S : IT} {x p : Int} (h1 : 0 ≤ x) (h2 : x < S 27 0 1) (h3 : 0 ≤ p) (h4 : p < S 27 0 1) (h5 : S 28 0 (12 * x.toNat + p.toNat) < 1000000) : btw S x p = S 28 0 (12 * x.toNat + p.toNat) := if_pos ⟨h1, h2, h3, h4, h5⟩
def shr (S : IT) (p b : Int) : Int := if b = -1 then -1 else fr9 S b.toNat p

theorem k127_0 {fs : List fr} {I : IT} {cc : Nat → Option Nat} {n c z : Nat} {out : oP} {p : Int} (h : Rn 127 8 [some (vr 16 0), some (vi p), some (vr 1 0), some (vi (-1)), some (vi (-1)), some (vi 0), none, none] [] (fs) I (Cs cc) n c z out) : Rn 127 0 [some (vr 16 0), some (vi p), some (vr 1 0), none, none, none, none, none] [] (fs) I (Cs cc) n c z out :=
  (Rn.iconst (pc2 := 1) rfl rfl (Rn.istore_n (pc2 := 2) (ls2 := [some (vr 16 0), some (vi p), some (vr 1 0), some (vi (-1)), none, none, none, none]) rfl rfl rfl (Rn.iconst (pc2 := 3) rfl rfl (Rn.istore (pc2 := 5) (ls2 := [some (vr 16 0), some (vi p), some (vr 1 0), some (vi (-1)), some (vi (-1)), none, none, none]) rfl rfl rfl (Rn.iconst (pc2 := 6) rfl rfl (Rn.istore (pc2 := 8) (ls2 := [some (vr 16 0), some (vi p), some (vr 1 0), some (vi (-1)), some (vi (-1)), some (vi 0), none, none]) rfl rfl rfl h))))))

theorem k127_8 {fs : List fr} {I : IT} {cc : Nat → Option Nat} {n c z : Nat} {out : oP} {p : Int} {near : Int} {short : Int} {i : Int} {x6 : Option av} {x7 : Option av} (h : ((i < (I 16 0 0)) → ((0 ≤ i ∧ i < 6) ∧ (Rn 116 0 [some (vr 1 0), some (vi (I 19 (Int.toNat i) 0)), some (vi p)] [] ((127, 29, [some (vr 16 0), some (vi p), some (vr 1 0), some (vi near), some (vi short), some (vi i), x6, x7], []) :: fs) I (Cs cc) n c z out))) ∧ (¬ (i < (I 16 0 0)) → (Rf (Sum.inl (some (vi near))) fs I (Cs cc) n c z out))) : Rn 127 8 [some (vr 16 0), some (vi p), some (vr 1 0), some (vi near), some (vi short), some (vi i), x6, x7] [] (fs) I (Cs cc) n c z out :=
  (Rn.iload (pc2 := 10) rfl rfl rfl (Rn.aload_n (pc2 := 11) rfl rfl rfl (Rn.getI (pc2 := 14) rfl rfl rfl rfl (Rn.ic_ge (pc2 := 17) rfl rfl (fun q18 => (Rn.aload_n (pc2 := 18) rfl rfl rfl (Rn.aload_n (pc2 := 19) rfl rfl rfl (Rn.getR (pc2 := 22) (q := (some (17, 0))) rfl rfl rfl rfl rfl (Rn.iload (pc2 := 24) rfl rfl rfl (Rn.aald (pc2 := 25) (L := 6) (q := (some (19, (Int.toNat i)))) rfl rfl rfl rfl (h.1 q18).1 rfl rfl (Rn.getI (pc2 := 28) rfl rfl rfl rfl (Rn.iload_n (pc2 := 29) rfl rfl rfl (Rn.ivir (as := [vi (I 19 (Int.toNat i) 0), vi p]) (r := []) (ls2 := [some (vr 1 0), some (vi (I 19 (Int.toNat i) 0)), some (vi p)]) (f := 1) (i := 0) rfl rfl rfl rfl rfl rfl rfl (h.1 q18).2))))))))) (fun q18 => (Rn.iload_n (pc2 := 91) rfl rfl rfl (Rn.iret rfl rfl (h.2 q18))))))))

theorem k127_32 {fs : List fr} {I : IT} {cc : Nat → Option Nat} {n c z : Nat} {out : oP} {p : Int} {near : Int} {short : Int} {i : Int} {x6 : Option av} {x7 : Option av} {v : Int} (h : (0 ≤ i ∧ i < 6) ∧ ((cc (Int.toNat i) = none → (((v = (-1)) → (Rn 127 8 [some (vr 16 0), some (vi p), some (vr 1 0), some (vi near), some (vi short), some (vi (wr (i + 1))), some (vi v), some (vi 0)] [] (fs) I (Cs cc) n c z out)) ∧ (¬ (v = (-1)) → (((near = (-1)) → (Rn 127 8 [some (vr 16 0), some (vi p), some (vr 1 0), some (vi i), some (vi v), some (vi (wr (i + 1))), some (vi v), some (vi 1)] [] (fs) I (Cs cc) n c z out)) ∧ (¬ (near = (-1)) → (((v < short) → (Rn 127 8 [some (vr 16 0), some (vi p), some (vr 1 0), some (vi i), some (vi v), some (vi (wr (i + 1))), some (vi v), some (vi 1)] [] (fs) I (Cs cc) n c z out)) ∧ (¬ (v < short) → (Rn 127 8 [some (vr 16 0), some (vi p), some (vr 1 0), some (vi near), some (vi short), some (vi (wr (i + 1))), some (vi v), some (vi 1)] [] (fs) I (Cs cc) n c z out)))))))) ∧ (∀ u19, cc (Int.toNat i) = some u19 → (Rn 127 8 [some (vr 16 0), some (vi p), some (vr 1 0), some (vi near), some (vi short), some (vi (wr (i + 1))), some (vi v), some (vi 0)] [] (fs) I (Cs cc) n c z out)))) : Rn 127 32 [some (vr 16 0), some (vi p), some (vr 1 0), some (vi near), some (vi short), some (vi i), x6, x7] [vi v] (fs) I (Cs cc) n c z out :=
  (Rn.istore (pc2 := 34) (ls2 := [some (vr 16 0), some (vi p), some (vr 1 0), some (vi near), some (vi short), some (vi i), some (vi v), x7]) rfl rfl rfl (Rn.aload_n (pc2 := 35) rfl rfl rfl (Rn.getR (pc2 := 38) (q := (some (17, 0))) rfl rfl rfl rfl rfl (Rn.iload (pc2 := 40) rfl rfl rfl (Rn.aald (pc2 := 41) (L := 6) (q := (some (19, (Int.toNat i)))) rfl rfl rfl rfl h.1 rfl rfl (Rn.getR (pc2 := 44) (q := (Option.map (fun q => (20, q)) (cc (Int.toNat i)))) rfl rfl rfl rfl rfl (optc (fun r9 => Rn 127 44 [some (vr 16 0), some (vi p), some (vr 1 0), some (vi near), some (vi short), some (vi i), some (vi v), x7] [vq r9] (fs) I (Cs cc) n c z out) (cc (Int.toNat i)) (fun q20 => (Rn.ifnonnullN (pc2 := 47) rfl rfl (Rn.iload (pc2 := 49) rfl rfl rfl (Rn.iconst (pc2 := 50) rfl rfl (Rn.ic_eq (pc2 := 53) rfl rfl (fun q21 => (Rn.iconst (pc2 := 58) rfl rfl (Rn.istore (pc2 := 60) (ls2 := [some (vr 16 0), some (vi p), some (vr 1 0), some (vi near), some (vi short), some (vi i), some (vi v), some (vi 0)]) rfl rfl rfl (Rn.iload (pc2 := 62) rfl rfl rfl (Rn.iz_eq (pc2 := 65) rfl rfl (fun _ =>  (Rn.iinc (pc2 := 87) (ls2 := [some (vr 16 0), some (vi p), some (vr 1 0), some (vi near), some (vi short), some (vi (wr (i + 1))), some (vi v), some (vi 0)]) rfl rfl rfl rfl (Rn.goto rfl ((h.2.1 q20).1 q21)))) (fun q => absurd (show ((0 : Int) = 0) by decide) q)))))) (fun q21 => (Rn.iconst (pc2 := 54) rfl rfl (Rn.goto rfl (Rn.istore (pc2 := 60) (ls2 := [some (vr 16 0), some (vi p), some (vr 1 0), some (vi near), some (vi short), some (vi i), some (vi v), some (vi 1)]) rfl rfl rfl (Rn.iload (pc2 := 62) rfl rfl rfl (Rn.iz_eq (pc2 := 65) rfl rfl (fun q => absurd q (show (¬ ((1 : Int) = 0)) by decide)) (fun _ =>  (Rn.iload_n (pc2 := 66) rfl rfl rfl (Rn.iconst (pc2 := 67) rfl rfl (Rn.ic_eq (pc2 := 70) rfl rfl (fun q22 => (Rn.iload (pc2 := 79) rfl rfl rfl (Rn.istore_n (pc2 := 80) (ls2 := [some (vr 16 0), some (vi p), some (vr 1 0), some (vi i), some (vi short), some (vi i), some (vi v), some (vi 1)]) rfl rfl rfl (Rn.iload (pc2 := 82) rfl rfl rfl (Rn.istore (pc2 := 84) (ls2 := [some (vr 16 0), some (vi p), some (vr 1 0), some (vi i), some (vi v), some (vi i), some (vi v), some (vi 1)]) rfl rfl rfl (Rn.iinc (pc2 := 87) (ls2 := [some (vr 16 0), some (vi p), some (vr 1 0), some (vi i), some (vi v), some (vi (wr (i + 1))), some (vi v), some (vi 1)]) rfl rfl rfl rfl (Rn.goto rfl (((h.2.1 q20).2 q21).1 q22)))))))) (fun q22 => (Rn.iload (pc2 := 72) rfl rfl rfl (Rn.iload (pc2 := 74) rfl rfl rfl (Rn.ic_ge (pc2 := 77) rfl rfl (fun q23 => (Rn.iload (pc2 := 79) rfl rfl rfl (Rn.istore_n (pc2 := 80) (ls2 := [some (vr 16 0), some (vi p), some (vr 1 0), some (vi i), some (vi short), some (vi i), some (vi v), some (vi 1)]) rfl rfl rfl (Rn.iload (pc2 := 82) rfl rfl rfl (Rn.istore (pc2 := 84) (ls2 := [some (vr 16 0), some (vi p), some (vr 1 0), some (vi i), some (vi v), some (vi i), some (vi v), some (vi 1)]) rfl rfl rfl (Rn.iinc (pc2 := 87) (ls2 := [some (vr 16 0), some (vi p), some (vr 1 0), some (vi i), some (vi v), some (vi (wr (i + 1))), some (vi v), some (vi 1)]) rfl rfl rfl rfl (Rn.goto rfl ((((h.2.1 q20).2 q21).2 q22).1 q23)))))))) (fun q23 => (Rn.iinc (pc2 := 87) (ls2 := [some (vr 16 0), some (vi p), some (vr 1 0), some (vi near), some (vi short), some (vi (wr (i + 1))), some (vi v), some (vi 1)]) rfl rfl rfl rfl (Rn.goto rfl ((((h.2.1 q20).2 q21).2 q22).2 q23))))))))))))))))))))))) (fun u19 q20 => (Rn.ifnonnullS rfl (Rn.iconst (pc2 := 58) rfl rfl (Rn.istore (pc2 := 60) (ls2 := [some (vr 16 0), some (vi p), some (vr 1 0), some (vi near), some (vi short), some (vi i), some (vi v), some (vi 0)]) rfl rfl rfl (Rn.iload (pc2 := 62) rfl rfl rfl (Rn.iz_eq (pc2 := 65) rfl rfl (fun _ =>  (Rn.iinc (pc2 := 87) (ls2 := [some (vr 16 0), some (vi p), some (vr 1 0), some (vi near), some (vi short), some (vi (wr (i + 1))), some (vi v), some (vi 0)]) rfl rfl rfl rfl (Rn.goto rfl (h.2.2 u19 q20)))) (fun q => absurd (show ((0 : Int) = 0) by decide) q))))))))))))))

theorem k125_0 {fs : List fr} {I : IT} {cc : Nat → Option Nat} {n c z : Nat} {out : oP} {now : Int} (h : Rn 125 2 [some (vr 16 0), some (vr 1 0), some (vi now), some (vi 0), none] [] (fs) I (Cs cc) n c z out) : Rn 125 0 [some (vr 16 0), some (vr 1 0), some (vi now), none, none] [] (fs) I (Cs cc) n c z out :=
  (Rn.iconst (pc2 := 1) rfl rfl (Rn.istore_n (pc2 := 2) (ls2 := [some (vr 16 0), some (vr 1 0), some (vi now), some (vi 0), none]) rfl rfl rfl h))

theorem k125_2 {fs : List fr} {I : IT} {cc : Nat → Option Nat} {n c z : Nat} {out : oP} {now : Int} {i : Int} {x4 : Option av} (h : ((i < (I 16 0 1)) → ((0 ≤ i ∧ i < 40) ∧ ((((I 20 (Int.toNat i) 2) = 0) → (Rn 127 0 [some (vr 16 0), some (vi (I 20 (Int.toNat i) 4)), some (vr 1 0), none, none, none, none, none] [] ((126, 6, [some (vr 16 0), some (vr 20 (Int.toNat i)), some (vr 1 0), some (vi now), none, none], []) :: (125, 31, [some (vr 16 0), some (vr 1 0), some (vi now), some (vi i), some (vr 20 (Int.toNat i))], []) :: fs) I (Cs cc) n c z out)) ∧ (¬ ((I 20 (Int.toNat i) 2) = 0) → (Rn 125 2 [some (vr 16 0), some (vr 1 0), some (vi now), some (vi (wr (i + 1))), some (vr 20 (Int.toNat i))] [] (fs) I (Cs cc) n c z out))))) ∧ (¬ (i < (I 16 0 1)) → (Rf (Sum.inl none) fs I (Cs cc) n c z out))) : Rn 125 2 [some (vr 16 0), some (vr 1 0), some (vi now), some (vi i), x4] [] (fs) I (Cs cc) n c z out :=
  (Rn.iload_n (pc2 := 3) rfl rfl rfl (Rn.aload_n (pc2 := 4) rfl rfl rfl (Rn.getI (pc2 := 7) rfl rfl rfl rfl (Rn.ic_ge (pc2 := 10) rfl rfl (fun q24 => (Rn.aload_n (pc2 := 11) rfl rfl rfl (Rn.getR (pc2 := 14) (q := (some (18, 0))) rfl rfl rfl rfl rfl (Rn.iload_n (pc2 := 15) rfl rfl rfl (Rn.aald (pc2 := 16) (L := 40) (q := (some (20, (Int.toNat i)))) rfl rfl rfl rfl (h.1 q24).1 rfl rfl (Rn.astore (pc2 := 18) (ls2 := [some (vr 16 0), some (vr 1 0), some (vi now), some (vi i), some (vr 20 (Int.toNat i))]) rfl rfl rfl (Rn.aload (pc2 := 20) rfl rfl rfl (Rn.getI (pc2 := 23) rfl rfl rfl rfl (Rn.iz_ne (pc2 := 26) rfl rfl (fun q25 => (Rn.aload_n (pc2 := 27) rfl rfl rfl (Rn.aload (pc2 := 29) rfl rfl rfl (Rn.aload_n (pc2 := 30) rfl rfl rfl (Rn.iload_n (pc2 := 31) rfl rfl rfl (Rn.ivir (as := [vr 20 (Int.toNat i), vr 1 0, vi now]) (r := []) (ls2 := [some (vr 16 0), some (vr 20 (Int.toNat i)), some (vr 1 0), some (vi now), none, none]) (f := 16) (i := 0) rfl rfl rfl rfl rfl rfl rfl (Rn.aload_n (pc2 := 1) rfl rfl rfl (Rn.aload_n (pc2 := 2) rfl rfl rfl (Rn.getI (pc2 := 5) rfl rfl rfl rfl (Rn.aload_n (pc2 := 6) rfl rfl rfl (Rn.ivir (as := [vi (I 20 (Int.toNat i) 4), vr 1 0]) (r := []) (ls2 := [some (vr 16 0), some (vi (I 20 (Int.toNat i) 4)), some (vr 1 0), none, none, none, none, none]) (f := 16) (i := 0) rfl rfl rfl rfl rfl rfl rfl ((h.1 q24).2.1 q25)))))))))))) (fun q25 => (Rn.iinc (pc2 := 37) (ls2 := [some (vr 16 0), some (vr 1 0), some (vi now), some (vi (wr (i + 1))), some (vr 20 (Int.toNat i))]) rfl rfl rfl rfl (Rn.goto rfl ((h.1 q24).2.2 q25))))))))))))) (fun q24 => (Rn.vret rfl (h.2 q24)))))))

theorem k125_34 {fs : List fr} {I : IT} {cc : Nat → Option Nat} {n c z : Nat} {out : oP} {now : Int} {i : Int} {x4 : Option av} (h : Rn 125 2 [some (vr 16 0), some (vr 1 0), some (vi now), some (vi (wr (i + 1))), x4] [] (fs) I (Cs cc) n c z out) : Rn 125 34 [some (vr 16 0), some (vr 1 0), some (vi now), some (vi i), x4] [] (fs) I (Cs cc) n c z out :=
  (Rn.iinc (pc2 := 37) (ls2 := [some (vr 16 0), some (vr 1 0), some (vi now), some (vi (wr (i + 1))), x4]) rfl rfl rfl rfl (Rn.goto rfl h))

theorem k126_9 {fs : List fr} {I : IT} {cc : Nat → Option Nat} {n c z : Nat} {out : oP} {q : Nat} {now : Int} {v : Int} (h : ((v < 0) → (Rf (Sum.inl none) fs I (Cs cc) n c z out)) ∧ (¬ (v < 0) → (((v < (I 16 0 0)) → ((0 ≤ v ∧ v < 6) ∧ (Rn 116 0 [some (vr 1 0), some (vi (I 19 (Int.toNat v) 0)), some (vi ((up3 (up3 I 20 q 2 1) 20 q 5 v) 20 q 4))] [] ((126, 56, [some (vr 16 0), some (vr 20 q), some (vr 1 0), some (vi now), some (vi v), some (vr 19 (Int.toNat v))], [vi now, vr 20 q]) :: fs) (up3 (up3 I 20 q 2 1) 20 q 5 v) (Cs cc) n c z out))) ∧ (¬ (v < (I 16 0 0)) → (Rf (Sum.inl none) fs I (Cs cc) n c z out))))) : Rn 126 9 [some (vr 16 0), some (vr 20 q), some (vr 1 0), some (vi now), none, none] [vi v] (fs) I (Cs cc) n c z out :=
  (Rn.istore (pc2 := 11) (ls2 := [some (vr 16 0), some (vr 20 q), some (vr 1 0), some (vi now), some (vi v), none]) rfl rfl rfl (Rn.iload (pc2 := 13) rfl rfl rfl (Rn.aload_n (pc2 := 14) rfl rfl rfl (Rn.getI (pc2 := 17) rfl rfl rfl rfl (Rn.ista (as := [vi v, vi (I 16 0 0)]) (r := []) (ls2 := [some (vi v), some (vi (I 16 0 0))]) rfl rfl rfl rfl rfl rfl rfl (Rn.iload_n (pc2 := 1) rfl rfl rfl (Rn.iz_lt (pc2 := 4) rfl rfl (fun q26 => (Rn.iconst (pc2 := 14) rfl rfl (Rn.zret rfl rfl (by decide) (Rf.sm (pc2 := 20) rfl (Rn.iz_ne (pc2 := 23) rfl rfl (fun _ =>  (Rn.vret rfl (h.1 q26))) (fun q => absurd (show ((0 : Int) = 0) by decide) q)))))) (fun q26 => (Rn.iload_n (pc2 := 5) rfl rfl rfl (Rn.iload_n (pc2 := 6) rfl rfl rfl (Rn.ic_ge (pc2 := 9) rfl rfl (fun q27 => (Rn.iconst (pc2 := 10) rfl rfl (Rn.goto rfl (Rn.zret rfl rfl (by decide) (Rf.sm (pc2 := 20) rfl (Rn.iz_ne (pc2 := 23) rfl rfl (fun q => absurd q (show (¬ ((1 : Int) = 0)) by decide)) (fun _ =>  (Rn.aload_n (pc2 := 25) rfl rfl rfl (Rn.getR (pc2 := 28) (q := (some (17, 0))) rfl rfl rfl rfl rfl (Rn.iload (pc2 := 30) rfl rfl rfl (Rn.aald (pc2 := 31) (L := 6) (q := (some (19, (Int.toNat v)))) rfl rfl rfl rfl ((h.2 q26).1 q27).1 rfl rfl (Rn.astore (pc2 := 33) (ls2 := [some (vr 16 0), some (vr 20 q), some (vr 1 0), some (vi now), some (vi v), some (vr 19 (Int.toNat v))]) rfl rfl rfl (Rn.aload_n (pc2 := 34) rfl rfl rfl (Rn.iconst (pc2 := 35) rfl rfl (Rn.putI (pc2 := 38) rfl rfl rfl rfl rfl (Rn.aload_n (pc2 := 39) rfl rfl rfl (Rn.iload (pc2 := 41) rfl rfl rfl (Rn.putI (pc2 := 44) rfl rfl rfl rfl rfl (Rn.aload_n (pc2 := 45) rfl rfl rfl (Rn.iload_n (pc2 := 46) rfl rfl rfl (Rn.aload_n (pc2 := 47) rfl rfl rfl (Rn.aload (pc2 := 49) rfl rfl rfl (Rn.getI (pc2 := 52) rfl rfl rfl rfl (Rn.aload_n (pc2 := 53) rfl rfl rfl (Rn.getI (pc2 := 56) rfl rfl rfl rfl (Rn.ivir (as := [vi (I 19 (Int.toNat v) 0), vi ((up3 (up3 I 20 q 2 1) 20 q 5 v) 20 q 4)]) (r := [vi now, vr 20 q]) (ls2 := [some (vr 1 0), some (vi (I 19 (Int.toNat v) 0)), some (vi ((up3 (up3 I 20 q 2 1) 20 q 5 v) 20 q 4))]) (f := 1) (i := 0) rfl rfl rfl rfl rfl rfl rfl ((h.2 q26).1 q27).2)))))))))))))))))))))))))) (fun q27 => (Rn.iconst (pc2 := 14) rfl rfl (Rn.zret rfl rfl (by decide) (Rf.sm (pc2 := 20) rfl (Rn.iz_ne (pc2 := 23) rfl rfl (fun _ =>  (Rn.vret rfl ((h.2 q26).2 q27))) (fun q => absurd (show ((0 : Int) = 0) by decide) q)))))))))))))))))

theorem k126_59 {fs : List fr} {I : IT} {cc : Nat → Option Nat} {n c z : Nat} {out : oP} {q : Nat} {now : Int} {v : Int} {k : Nat} {w : Int} (h : (((I 20 q 7) = 0) → (Rf (Sum.inl none) fs (up3 (up3 (up3 I 20 q 6 (wr ((wr (now + w)) + 0))) 19 k 0 ((up3 I 20 q 6 (wr ((wr (now + w)) + 0))) 20 q 4)) 19 k 2 (wr (((up3 I 20 q 6 (wr ((wr (now + w)) + 0))) 20 q 6) + 10))) (up3 (Cs cc) 19 k 1 (some (20, q))) n c z out)) ∧ (¬ ((I 20 q 7) = 0) → (Rf (Sum.inl none) fs (up3 (up3 (up3 I 20 q 6 (wr ((wr (now + w)) + 1))) 19 k 0 ((up3 I 20 q 6 (wr ((wr (now + w)) + 1))) 20 q 4)) 19 k 2 (wr (((up3 I 20 q 6 (wr ((wr (now + w)) + 1))) 20 q 6) + 10))) (up3 (Cs cc) 19 k 1 (some (20, q))) n c z out))) : Rn 126 59 [some (vr 16 0), some (vr 20 q), some (vr 1 0), some (vi now), some (vi v), some (vr 19 k)] [vi w, vi now, vr 20 q] (fs) I (Cs cc) n c z out :=
  (Rn.iadd (pc2 := 60) rfl rfl (Rn.aload_n (pc2 := 61) rfl rfl rfl (Rn.getI (pc2 := 64) rfl rfl rfl rfl (Rn.iz_eq (pc2 := 67) rfl rfl (fun q28 => (Rn.iconst (pc2 := 72) rfl rfl (Rn.iadd (pc2 := 73) rfl rfl (Rn.putI (pc2 := 76) rfl rfl rfl rfl rfl (Rn.aload (pc2 := 78) rfl rfl rfl (Rn.aload_n (pc2 := 79) rfl rfl rfl (Rn.getI (pc2 := 82) rfl rfl rfl rfl (Rn.putI (pc2 := 85) rfl rfl rfl rfl rfl (Rn.aload (pc2 := 87) rfl rfl rfl (Rn.aload_n (pc2 := 88) rfl rfl rfl (Rn.putR (pc2 := 91) rfl rfl rfl rfl (Rn.aload (pc2 := 93) rfl rfl rfl (Rn.aload_n (pc2 := 94) rfl rfl rfl (Rn.getI (pc2 := 97) rfl rfl rfl rfl (Rn.bipush (pc2 := 99) rfl rfl (Rn.iadd (pc2 := 100) rfl rfl (Rn.putI (pc2 := 103) rfl rfl rfl rfl rfl (Rn.vret rfl (h.1 q28))))))))))))))))))) (fun q28 => (Rn.iconst (pc2 := 68) rfl rfl (Rn.goto rfl (Rn.iadd (pc2 := 73) rfl rfl (Rn.putI (pc2 := 76) rfl rfl rfl rfl rfl (Rn.aload (pc2 := 78) rfl rfl rfl (Rn.aload_n (pc2 := 79) rfl rfl rfl (Rn.getI (pc2 := 82) rfl rfl rfl rfl (Rn.putI (pc2 := 85) rfl rfl rfl rfl rfl (Rn.aload (pc2 := 87) rfl rfl rfl (Rn.aload_n (pc2 := 88) rfl rfl rfl (Rn.putR (pc2 := 91) rfl rfl rfl rfl (Rn.aload (pc2 := 93) rfl rfl rfl (Rn.aload_n (pc2 := 94) rfl rfl rfl (Rn.getI (pc2 := 97) rfl rfl rfl rfl (Rn.bipush (pc2 := 99) rfl rfl (Rn.iadd (pc2 := 100) rfl rfl (Rn.putI (pc2 := 103) rfl rfl rfl rfl rfl (Rn.vret rfl (h.2 q28))))))))))))))))))))))))

theorem c_near_l {fs : List fr} {I S : IT} {cc : Nat → Option Nat} {n c z : Nat} {out : oP} (R : RC I cc S) (RAh : RA I S) (V : VC S) (v0 : V0 S) {p : Int} (hp0 : 0 ≤ p) (hp1 : p < S 27 0 1) (h : Rf (Sum.inl (some (vi (nb S p (S 27 0 14).toNat)))) fs I (Cs cc) n c z out) : ∀ (d k : Nat) (x6 x7 : Option av), k + d = (S 27 0 14).toNat → Rn 127 8 [some (vr 16 0), some (vi p), some (vr 1 0), some (vi (nb S p k)), some (vi (shr S p (nb S p k))), some (vi (k : Int)), x6, x7] [] fs I (Cs cc) n c z out := by
  obtain ⟨v1, v2, v3, v4, v5, v6, v7, v8⟩ := V
  obtain ⟨r1, r2, r3, r4⟩ := R
  intro d
  induction d with
  | zero =>
    intro k x6 x7 hk
    refine k127_8 ⟨fun h1 => by omega, fun h1 => ?_⟩
    rw [show k = (S 27 0 14).toNat by omega]; exact h
  | succ d ih =>
    intro k x6 x7 hk
    have nx := fun x6 x7 => ih (k + 1) x6 x7 (by omega)
    obtain ⟨a1, a2, a3, a4⟩ := v7 k (by omega)
    obtain ⟨b1, b2, _⟩ := r3 k (by omega)
    obtain ⟨b2, b3⟩ := b2 (by omega)
    have hb := nb_in (S := S) (p := p) k
    refine k127_8 ⟨fun h1 => ⟨by omega, ?_⟩, fun h1 => by omega⟩
    rw [Int.toNat_natCast, b2]
    refine c_btw RAh v6 (Rf.sm (pc2 := 32) rfl (k127_32 ⟨by omega, ?_, ?_⟩))
    · rw [Int.toNat_natCast, wrI (by omega) (by omega), nS]
      intro hc
      rw [hc] at b3
      have b3 : S 39 0 k = -1 := b3
      have hfr : fr9 S k p = S 28 0 (12 * (S 37 0 k).toNat + p.toNat) := rfl
      have h00 := v0 (S 37 0 k).toNat p.toNat (by omega) (by omega)
      refine ⟨fun h2 => ?_, fun h2 => ?_⟩
      · have e : nb S p (k + 1) = nb S p k := if_neg (fun g => by
          rw [hfr] at g
          rw [btw_fr a1 a2 hp0 hp1 g.2.1] at h2
          omega)
        have nx1 := nx (some (vi (btw S (S 37 0 k) p))) (some (vi 0))
        rw [e] at nx1; exact nx1
      · have hlt : S 28 0 (12 * (S 37 0 k).toNat + p.toNat) < 1000000 := by
          by_cases g : S 28 0 (12 * (S 37 0 k).toNat + p.toNat) < 1000000
          · exact g
          · exact absurd (if_neg (fun q => g q.2.2.2.2)) h2
        have nx1 := nx (some (vi (btw S (S 37 0 k) p))) (some (vi 1))
        rw [btw_fr a1 a2 hp0 hp1 hlt] at nx1 ⊢
        rw [← hfr] at *
        refine ⟨fun h3 => ?_, fun h3 => ⟨fun h4 => ?_, fun h4 => ?_⟩⟩
        · have e : nb S p (k + 1) = (k : Int) := if_pos ⟨b3, hlt, Or.inl h3⟩
          rw [e, show shr S p (k : Int) = fr9 S k p from if_neg (by omega)] at nx1; exact nx1
        · have h4 : fr9 S k p < fr9 S (nb S p k).toNat p := by
            rw [show shr S p (nb S p k) = fr9 S (nb S p k).toNat p from if_neg h3] at h4; exact h4
          have e : nb S p (k + 1) = (k : Int) := if_pos ⟨b3, hlt, Or.inr h4⟩
          rw [e, show shr S p (k : Int) = fr9 S k p from if_neg (by omega)] at nx1; exact nx1
        · have h4 : ¬ fr9 S k p < fr9 S (nb S p k).toNat p := by
            rw [show shr S p (nb S p k) = fr9 S (nb S p k).toNat p from if_neg h3] at h4; exact h4
          have e : nb S p (k + 1) = nb S p k := if_neg (fun g => g.2.2.elim h3 h4)
          rw [e] at nx1; exact nx1
    · rw [Int.toNat_natCast, wrI (by omega) (by omega), nS]
      intro u hc
      rw [hc] at b3
      have b3 : S 39 0 k = (u : Int) := b3
      have e : nb S p (k + 1) = nb S p k := if_neg (fun g => by omega)
      have nx1 := nx (some (vi (btw S (S 37 0 k) p))) (some (vi 0))
      rw [e] at nx1; exact nx1
theorem c_near {fs : List fr} {I S : IT} {cc : Nat → Option Nat} {n c z : Nat} {out : oP} (R : RC I cc S) (RAh : RA I S) (V : VC S) (v0 : V0 S) {p : Int} (hp0 : 0 ≤ p) (hp1 : p < S 27 0 1) (h : Rf (Sum.inl (some (vi (nb S p (S 27 0 14).toNat)))) fs I (Cs cc) n c z out) : Rn 127 0 [some (vr 16 0), some (vi p), some (vr 1 0), none, none, none, none, none] [] fs I (Cs cc) n c z out :=
  k127_0 (c_near_l R RAh V v0 hp0 hp1 h (S 27 0 14).toNat 0 none none (by have := V.1; omega))


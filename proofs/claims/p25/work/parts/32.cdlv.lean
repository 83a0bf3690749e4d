theorem k84_0 {fs : List fr} {I : IT} {cc : Nat → Option Nat} {n c z : Nat} {out : oP} {now : Int} (h : Rn 84 3 [some (vr 21 0), some (vr 3 0), some (vr 1 0), some (vi now), some (vi 0), none, none, none, none] [] (fs) I (Cs cc) n c z out) : Rn 84 0 [some (vr 21 0), some (vr 3 0), some (vr 1 0), some (vi now), none, none, none, none, none] [] (fs) I (Cs cc) n c z out :=
  (Rn.iconst (pc2 := 1) rfl rfl (Rn.istore (pc2 := 3) (ls2 := [some (vr 21 0), some (vr 3 0), some (vr 1 0), some (vi now), some (vi 0), none, none, none, none]) rfl rfl rfl h))

theorem k84_3 {fs : List fr} {I : IT} {cc : Nat → Option Nat} {n c z : Nat} {out : oP} {now : Int} {i : Int} {x5 : Option av} {x6 : Option av} {x7 : Option av} {x8 : Option av} (h : ((i < (I 21 0 1)) → ((0 ≤ i ∧ i < 40) ∧ ((((I 26 (Int.toNat i) 4) = 0) → (Rn 100 0 [some (vr 3 0), some (vi (I 26 (Int.toNat i) 0)), some (vi (I 26 (Int.toNat i) 1)), none] [] ((84, 40, [some (vr 21 0), some (vr 3 0), some (vr 1 0), some (vi now), some (vi i), some (vr 26 (Int.toNat i)), x6, x7, x8], []) :: fs) I (Cs cc) n c z out)) ∧ (¬ ((I 26 (Int.toNat i) 4) = 0) → (Rn 84 3 [some (vr 21 0), some (vr 3 0), some (vr 1 0), some (vi now), some (vi (wr (i + 1))), some (vr 26 (Int.toNat i)), x6, x7, x8] [] (fs) I (Cs cc) n c z out))))) ∧ (¬ (i < (I 21 0 1)) → (Rf (Sum.inl none) fs I (Cs cc) n c z out))) : Rn 84 3 [some (vr 21 0), some (vr 3 0), some (vr 1 0), some (vi now), some (vi i), x5, x6, x7, x8] [] (fs) I (Cs cc) n c z out :=
  (Rn.iload (pc2 := 5) rfl rfl rfl (Rn.aload_n (pc2 := 6) rfl rfl rfl (Rn.getI (pc2 := 9) rfl rfl rfl rfl (Rn.ic_ge (pc2 := 12) rfl rfl (fun q18 => (Rn.aload_n (pc2 := 13) rfl rfl rfl (Rn.getR (pc2 := 16) (q := (some (23, 0))) rfl rfl rfl rfl rfl (Rn.iload (pc2 := 18) rfl rfl rfl (Rn.aald (pc2 := 19) (L := 40) (q := (some (26, (Int.toNat i)))) rfl rfl rfl rfl (h.1 q18).1 rfl rfl (Rn.astore (pc2 := 21) (ls2 := [some (vr 21 0), some (vr 3 0), some (vr 1 0), some (vi now), some (vi i), some (vr 26 (Int.toNat i)), x6, x7, x8]) rfl rfl rfl (Rn.aload (pc2 := 23) rfl rfl rfl (Rn.getI (pc2 := 26) rfl rfl rfl rfl (Rn.iz_ne (pc2 := 29) rfl rfl (fun q19 => (Rn.aload_n (pc2 := 30) rfl rfl rfl (Rn.aload (pc2 := 32) rfl rfl rfl (Rn.getI (pc2 := 35) rfl rfl rfl rfl (Rn.aload (pc2 := 37) rfl rfl rfl (Rn.getI (pc2 := 40) rfl rfl rfl rfl (Rn.ivir (as := [vi (I 26 (Int.toNat i) 0), vi (I 26 (Int.toNat i) 1)]) (r := []) (ls2 := [some (vr 3 0), some (vi (I 26 (Int.toNat i) 0)), some (vi (I 26 (Int.toNat i) 1)), none]) (f := 3) (i := 0) rfl rfl rfl rfl rfl rfl rfl ((h.1 q18).2.1 q19)))))))) (fun q19 => (Rn.iinc (pc2 := 86) (ls2 := [some (vr 21 0), some (vr 3 0), some (vr 1 0), some (vi now), some (vi (wr (i + 1))), some (vr 26 (Int.toNat i)), x6, x7, x8]) rfl rfl rfl rfl (Rn.goto rfl ((h.1 q18).2.2 q19))))))))))))) (fun q18 => (Rn.vret rfl (h.2 q18)))))))

theorem k84_43 {fs : List fr} {I : IT} {cc : Nat → Option Nat} {n c z : Nat} {out : oP} {now : Int} {i : Int} {p : Nat} {x6 : Option av} {x7 : Option av} {x8 : Option av} {st : Int} (h : Rn 95 0 [some (vr 3 0), some (vi st), some (vi (I 26 p 1))] [] ((84, 53, [some (vr 21 0), some (vr 3 0), some (vr 1 0), some (vi now), some (vi i), some (vr 26 p), some (vi st), x7, x8], []) :: fs) I (Cs cc) n c z out) : Rn 84 43 [some (vr 21 0), some (vr 3 0), some (vr 1 0), some (vi now), some (vi i), some (vr 26 p), x6, x7, x8] [vi st] (fs) I (Cs cc) n c z out :=
  (Rn.istore (pc2 := 45) (ls2 := [some (vr 21 0), some (vr 3 0), some (vr 1 0), some (vi now), some (vi i), some (vr 26 p), some (vi st), x7, x8]) rfl rfl rfl (Rn.aload_n (pc2 := 46) rfl rfl rfl (Rn.iload (pc2 := 48) rfl rfl rfl (Rn.aload (pc2 := 50) rfl rfl rfl (Rn.getI (pc2 := 53) rfl rfl rfl rfl (Rn.ivir (as := [vi st, vi (I 26 p 1)]) (r := []) (ls2 := [some (vr 3 0), some (vi st), some (vi (I 26 p 1))]) (f := 3) (i := 0) rfl rfl rfl rfl rfl rfl rfl h))))))

theorem k84_56 {fs : List fr} {I : IT} {cc : Nat → Option Nat} {n c z : Nat} {out : oP} {now : Int} {i : Int} {p : Nat} {st : Int} {x7 : Option av} {x8 : Option av} {pl : Int} (h : Rn 85 0 [some (vr 21 0), some (vi (I 26 p 2)), some (vi pl), some (vr 1 0), none, none, none, none, none] [] ((84, 67, [some (vr 21 0), some (vr 3 0), some (vr 1 0), some (vi now), some (vi i), some (vr 26 p), some (vi st), some (vi pl), x8], []) :: fs) I (Cs cc) n c z out) : Rn 84 56 [some (vr 21 0), some (vr 3 0), some (vr 1 0), some (vi now), some (vi i), some (vr 26 p), some (vi st), x7, x8] [vi pl] (fs) I (Cs cc) n c z out :=
  (Rn.istore (pc2 := 58) (ls2 := [some (vr 21 0), some (vr 3 0), some (vr 1 0), some (vi now), some (vi i), some (vr 26 p), some (vi st), some (vi pl), x8]) rfl rfl rfl (Rn.aload_n (pc2 := 59) rfl rfl rfl (Rn.aload (pc2 := 61) rfl rfl rfl (Rn.getI (pc2 := 64) rfl rfl rfl rfl (Rn.iload (pc2 := 66) rfl rfl rfl (Rn.aload_n (pc2 := 67) rfl rfl rfl (Rn.ivir (as := [vi (I 26 p 2), vi pl, vr 1 0]) (r := []) (ls2 := [some (vr 21 0), some (vi (I 26 p 2)), some (vi pl), some (vr 1 0), none, none, none, none, none]) (f := 21) (i := 0) rfl rfl rfl rfl rfl rfl rfl h)))))))

theorem k84_70 {fs : List fr} {I : IT} {cc : Nat → Option Nat} {n c z : Nat} {out : oP} {now : Int} {i : Int} {p : Nat} {st : Int} {pl : Int} {x8 : Option av} {f : Int} (h : ((f < 0) → (Rn 84 3 [some (vr 21 0), some (vr 3 0), some (vr 1 0), some (vi now), some (vi (wr (i + 1))), some (vr 26 p), some (vi st), some (vi pl), some (vi f)] [] (fs) I (Cs cc) n c z out)) ∧ (¬ (f < 0) → (((f < (I 21 0 0)) → ((0 ≤ f ∧ f < 6) ∧ (Rn 111 0 [some (vr 24 (Int.toNat f)), some (vi ((up3 (up3 I 26 p 4 1) 26 p 5 f) 26 p 2)), none] [] ((86, 32, [some (vr 21 0), some (vi f), some (vr 26 p), some (vi st), some (vi now)], [vr 26 p]) :: (84, 80, [some (vr 21 0), some (vr 3 0), some (vr 1 0), some (vi now), some (vi i), some (vr 26 p), some (vi st), some (vi pl), some (vi f)], []) :: fs) (up3 (up3 I 26 p 4 1) 26 p 5 f) (Cs cc) n c z out))) ∧ (¬ (f < (I 21 0 0)) → (Rn 84 3 [some (vr 21 0), some (vr 3 0), some (vr 1 0), some (vi now), some (vi (wr (i + 1))), some (vr 26 p), some (vi st), some (vi pl), some (vi f)] [] (fs) I (Cs cc) n c z out))))) : Rn 84 70 [some (vr 21 0), some (vr 3 0), some (vr 1 0), some (vi now), some (vi i), some (vr 26 p), some (vi st), some (vi pl), x8] [vi f] (fs) I (Cs cc) n c z out :=
  (Rn.istore (pc2 := 72) (ls2 := [some (vr 21 0), some (vr 3 0), some (vr 1 0), some (vi now), some (vi i), some (vr 26 p), some (vi st), some (vi pl), some (vi f)]) rfl rfl rfl (Rn.aload_n (pc2 := 73) rfl rfl rfl (Rn.iload (pc2 := 75) rfl rfl rfl (Rn.aload (pc2 := 77) rfl rfl rfl (Rn.iload (pc2 := 79) rfl rfl rfl (Rn.iload_n (pc2 := 80) rfl rfl rfl (Rn.ivir (as := [vi f, vr 26 p, vi st, vi now]) (r := []) (ls2 := [some (vr 21 0), some (vi f), some (vr 26 p), some (vi st), some (vi now)]) (f := 21) (i := 0) rfl rfl rfl rfl rfl rfl rfl (Rn.iload_n (pc2 := 1) rfl rfl rfl (Rn.aload_n (pc2 := 2) rfl rfl rfl (Rn.getI (pc2 := 5) rfl rfl rfl rfl (Rn.ista (as := [vi f, vi (I 21 0 0)]) (r := []) (ls2 := [some (vi f), some (vi (I 21 0 0))]) rfl rfl rfl rfl rfl rfl rfl (Rn.iload_n (pc2 := 1) rfl rfl rfl (Rn.iz_lt (pc2 := 4) rfl rfl (fun q20 => (Rn.iconst (pc2 := 14) rfl rfl (Rn.zret rfl rfl (by decide) (Rf.sm (pc2 := 8) rfl (Rn.iz_eq (pc2 := 11) rfl rfl (fun _ =>  (Rn.vret rfl (Rf.nn (pc2 := 83) rfl (Rn.iinc (pc2 := 86) (ls2 := [some (vr 21 0), some (vr 3 0), some (vr 1 0), some (vi now), some (vi (wr (i + 1))), some (vr 26 p), some (vi st), some (vi pl), some (vi f)]) rfl rfl rfl rfl (Rn.goto rfl (h.1 q20)))))) (fun q => absurd (show ((0 : Int) = 0) by decide) q)))))) (fun q20 => (Rn.iload_n (pc2 := 5) rfl rfl rfl (Rn.iload_n (pc2 := 6) rfl rfl rfl (Rn.ic_ge (pc2 := 9) rfl rfl (fun q21 => (Rn.iconst (pc2 := 10) rfl rfl (Rn.goto rfl (Rn.zret rfl rfl (by decide) (Rf.sm (pc2 := 8) rfl (Rn.iz_eq (pc2 := 11) rfl rfl (fun q => absurd q (show (¬ ((1 : Int) = 0)) by decide)) (fun _ =>  (Rn.aload_n (pc2 := 12) rfl rfl rfl (Rn.iconst (pc2 := 13) rfl rfl (Rn.putI (pc2 := 16) rfl rfl rfl rfl rfl (Rn.aload_n (pc2 := 17) rfl rfl rfl (Rn.iload_n (pc2 := 18) rfl rfl rfl (Rn.putI (pc2 := 21) rfl rfl rfl rfl rfl (Rn.aload_n (pc2 := 22) rfl rfl rfl (Rn.aload_n (pc2 := 23) rfl rfl rfl (Rn.getR (pc2 := 26) (q := (some (22, 0))) rfl rfl rfl rfl rfl (Rn.iload_n (pc2 := 27) rfl rfl rfl (Rn.aald (pc2 := 28) (L := 6) (q := (some (24, (Int.toNat f)))) rfl rfl rfl rfl ((h.2 q20).1 q21).1 rfl rfl (Rn.aload_n (pc2 := 29) rfl rfl rfl (Rn.getI (pc2 := 32) rfl rfl rfl rfl (Rn.ivir (as := [vi ((up3 (up3 I 26 p 4 1) 26 p 5 f) 26 p 2)]) (r := [vr 26 p]) (ls2 := [some (vr 24 (Int.toNat f)), some (vi ((up3 (up3 I 26 p 4 1) 26 p 5 f) 26 p 2)), none]) (f := 24) (i := (Int.toNat f)) rfl rfl rfl rfl rfl rfl rfl ((h.2 q20).1 q21).2))))))))))))))))))))) (fun q21 => (Rn.iconst (pc2 := 14) rfl rfl (Rn.zret rfl rfl (by decide) (Rf.sm (pc2 := 8) rfl (Rn.iz_eq (pc2 := 11) rfl rfl (fun _ =>  (Rn.vret rfl (Rf.nn (pc2 := 83) rfl (Rn.iinc (pc2 := 86) (ls2 := [some (vr 21 0), some (vr 3 0), some (vr 1 0), some (vi now), some (vi (wr (i + 1))), some (vr 26 p), some (vi st), some (vi pl), some (vi f)]) rfl rfl rfl rfl (Rn.goto rfl ((h.2 q20).2 q21)))))) (fun q => absurd (show ((0 : Int) = 0) by decide) q)))))))))))))))))))))))

theorem k86_35 {fs : List fr} {I : IT} {cc : Nat → Option Nat} {n c z : Nat} {out : oP} {f : Int} {p : Nat} {st : Int} {now : Int} {g : Int} (h : ((st = ((up3 (up3 I 26 p 6 g) 26 p 7 now) 26 p 3)) → ((0 ≤ f ∧ f < 6) ∧ (((((up3 (up3 (up3 I 26 p 6 g) 26 p 7 now) 26 p 8 0) 26 p 6) < 0) → (Rf (Sum.inl none) fs (up3 (up3 (up3 I 26 p 6 g) 26 p 7 now) 26 p 8 0) (Cs cc) n c z out)) ∧ (¬ (((up3 (up3 (up3 I 26 p 6 g) 26 p 7 now) 26 p 8 0) 26 p 6) < 0) → (((((up3 (up3 (up3 I 26 p 6 g) 26 p 7 now) 26 p 8 0) 26 p 6) < 3) → ((0 ≤ ((up3 (up3 (up3 I 26 p 6 g) 26 p 7 now) 26 p 8 0) 26 p 6) ∧ ((up3 (up3 (up3 I 26 p 6 g) 26 p 7 now) 26 p 8 0) 26 p 6) < 3) ∧ (Rf (Sum.inl none) fs (up3 (up3 (up3 (up3 I 26 p 6 g) 26 p 7 now) 26 p 8 0) 25 (Int.toNat f) (Int.toNat ((up3 (up3 (up3 I 26 p 6 g) 26 p 7 now) 26 p 8 0) 26 p 6)) (wr ((I 25 (Int.toNat f) (Int.toNat ((up3 (up3 (up3 I 26 p 6 g) 26 p 7 now) 26 p 8 0) 26 p 6))) + (-1)))) (Cs cc) n c z out))) ∧ (¬ (((up3 (up3 (up3 I 26 p 6 g) 26 p 7 now) 26 p 8 0) 26 p 6) < 3) → (Rf (Sum.inl none) fs (up3 (up3 (up3 I 26 p 6 g) 26 p 7 now) 26 p 8 0) (Cs cc) n c z out))))))) ∧ (¬ (st = ((up3 (up3 I 26 p 6 g) 26 p 7 now) 26 p 3)) → ((0 ≤ f ∧ f < 6) ∧ (((((up3 (up3 (up3 I 26 p 6 g) 26 p 7 now) 26 p 8 1) 26 p 6) < 0) → (Rf (Sum.inl none) fs (up3 (up3 (up3 I 26 p 6 g) 26 p 7 now) 26 p 8 1) (Cs cc) n c z out)) ∧ (¬ (((up3 (up3 (up3 I 26 p 6 g) 26 p 7 now) 26 p 8 1) 26 p 6) < 0) → (((((up3 (up3 (up3 I 26 p 6 g) 26 p 7 now) 26 p 8 1) 26 p 6) < 3) → ((0 ≤ ((up3 (up3 (up3 I 26 p 6 g) 26 p 7 now) 26 p 8 1) 26 p 6) ∧ ((up3 (up3 (up3 I 26 p 6 g) 26 p 7 now) 26 p 8 1) 26 p 6) < 3) ∧ (Rf (Sum.inl none) fs (up3 (up3 (up3 (up3 I 26 p 6 g) 26 p 7 now) 26 p 8 1) 25 (Int.toNat f) (Int.toNat ((up3 (up3 (up3 I 26 p 6 g) 26 p 7 now) 26 p 8 1) 26 p 6)) (wr ((I 25 (Int.toNat f) (Int.toNat ((up3 (up3 (up3 I 26 p 6 g) 26 p 7 now) 26 p 8 1) 26 p 6))) + (-1)))) (Cs cc) n c z out))) ∧ (¬ (((up3 (up3 (up3 I 26 p 6 g) 26 p 7 now) 26 p 8 1) 26 p 6) < 3) → (Rf (Sum.inl none) fs (up3 (up3 (up3 I 26 p 6 g) 26 p 7 now) 26 p 8 1) (Cs cc) n c z out)))))))) : Rn 86 35 [some (vr 21 0), some (vi f), some (vr 26 p), some (vi st), some (vi now)] [vi g, vr 26 p] (fs) I (Cs cc) n c z out :=
  (Rn.putI (pc2 := 38) rfl rfl rfl rfl rfl (Rn.aload_n (pc2 := 39) rfl rfl rfl (Rn.iload (pc2 := 41) rfl rfl rfl (Rn.putI (pc2 := 44) rfl rfl rfl rfl rfl (Rn.aload_n (pc2 := 45) rfl rfl rfl (Rn.iload_n (pc2 := 46) rfl rfl rfl (Rn.aload_n (pc2 := 47) rfl rfl rfl (Rn.getI (pc2 := 50) rfl rfl rfl rfl (Rn.ic_eq (pc2 := 53) rfl rfl (fun q22 => (Rn.iconst (pc2 := 58) rfl rfl (Rn.putZ (pc2 := 61) rfl rfl rfl rfl (by decide) rfl (Rn.aload_n (pc2 := 62) rfl rfl rfl (Rn.getR (pc2 := 65) (q := (some (22, 0))) rfl rfl rfl rfl rfl (Rn.iload_n (pc2 := 66) rfl rfl rfl (Rn.aald (pc2 := 67) (L := 6) (q := (some (24, (Int.toNat f)))) rfl rfl rfl rfl (h.1 q22).1 rfl rfl (Rn.aload_n (pc2 := 68) rfl rfl rfl (Rn.getI (pc2 := 71) rfl rfl rfl rfl (Rn.iconst (pc2 := 72) rfl rfl (Rn.ivir (as := [vi ((up3 (up3 (up3 I 26 p 6 g) 26 p 7 now) 26 p 8 0) 26 p 6), vi (-1)]) (r := []) (ls2 := [some (vr 24 (Int.toNat f)), some (vi ((up3 (up3 (up3 I 26 p 6 g) 26 p 7 now) 26 p 8 0) 26 p 6)), some (vi (-1))]) (f := 24) (i := (Int.toNat f)) rfl rfl rfl rfl rfl rfl rfl (Rn.iload_n (pc2 := 1) rfl rfl rfl (Rn.iconst (pc2 := 2) rfl rfl (Rn.ista (as := [vi ((up3 (up3 (up3 I 26 p 6 g) 26 p 7 now) 26 p 8 0) 26 p 6), vi 3]) (r := []) (ls2 := [some (vi ((up3 (up3 (up3 I 26 p 6 g) 26 p 7 now) 26 p 8 0) 26 p 6)), some (vi 3)]) rfl rfl rfl rfl rfl rfl rfl (Rn.iload_n (pc2 := 1) rfl rfl rfl (Rn.iz_lt (pc2 := 4) rfl rfl (fun q23 => (Rn.iconst (pc2 := 14) rfl rfl (Rn.zret rfl rfl (by decide) (Rf.sm (pc2 := 5) rfl (Rn.iz_eq (pc2 := 8) rfl rfl (fun _ =>  (Rn.vret rfl (Rf.nn (pc2 := 75) rfl (Rn.vret rfl ((h.1 q22).2.1 q23))))) (fun q => absurd (show ((0 : Int) = 0) by decide) q)))))) (fun q23 => (Rn.iload_n (pc2 := 5) rfl rfl rfl (Rn.iload_n (pc2 := 6) rfl rfl rfl (Rn.ic_ge (pc2 := 9) rfl rfl (fun q24 => (Rn.iconst (pc2 := 10) rfl rfl (Rn.goto rfl (Rn.zret rfl rfl (by decide) (Rf.sm (pc2 := 5) rfl (Rn.iz_eq (pc2 := 8) rfl rfl (fun q => absurd q (show (¬ ((1 : Int) = 0)) by decide)) (fun _ =>  (Rn.aload_n (pc2 := 9) rfl rfl rfl (Rn.getR (pc2 := 12) (q := (some (25, (Int.toNat f)))) rfl rfl rfl rfl rfl (Rn.iload_n (pc2 := 13) rfl rfl rfl (Rn.dup2 (pc2 := 14) rfl rfl (Rn.iald (pc2 := 15) (L := 3) rfl rfl rfl (((h.1 q22).2.2 q23).1 q24).1 rfl (Rn.iload_n (pc2 := 16) rfl rfl rfl (Rn.iadd (pc2 := 17) rfl rfl (Rn.iast (pc2 := 18) (L := 3) rfl rfl rfl (((h.1 q22).2.2 q23).1 q24).1 rfl (Rn.vret rfl (Rf.nn (pc2 := 75) rfl (Rn.vret rfl (((h.1 q22).2.2 q23).1 q24).2)))))))))))))))))) (fun q24 => (Rn.iconst (pc2 := 14) rfl rfl (Rn.zret rfl rfl (by decide) (Rf.sm (pc2 := 5) rfl (Rn.iz_eq (pc2 := 8) rfl rfl (fun _ =>  (Rn.vret rfl (Rf.nn (pc2 := 75) rfl (Rn.vret rfl (((h.1 q22).2.2 q23).2 q24))))) (fun q => absurd (show ((0 : Int) = 0) by decide) q)))))))))))))))))))))))))) (fun q22 => (Rn.iconst (pc2 := 54) rfl rfl (Rn.goto rfl (Rn.putZ (pc2 := 61) rfl rfl rfl rfl (by decide) rfl (Rn.aload_n (pc2 := 62) rfl rfl rfl (Rn.getR (pc2 := 65) (q := (some (22, 0))) rfl rfl rfl rfl rfl (Rn.iload_n (pc2 := 66) rfl rfl rfl (Rn.aald (pc2 := 67) (L := 6) (q := (some (24, (Int.toNat f)))) rfl rfl rfl rfl (h.2 q22).1 rfl rfl (Rn.aload_n (pc2 := 68) rfl rfl rfl (Rn.getI (pc2 := 71) rfl rfl rfl rfl (Rn.iconst (pc2 := 72) rfl rfl (Rn.ivir (as := [vi ((up3 (up3 (up3 I 26 p 6 g) 26 p 7 now) 26 p 8 1) 26 p 6), vi (-1)]) (r := []) (ls2 := [some (vr 24 (Int.toNat f)), some (vi ((up3 (up3 (up3 I 26 p 6 g) 26 p 7 now) 26 p 8 1) 26 p 6)), some (vi (-1))]) (f := 24) (i := (Int.toNat f)) rfl rfl rfl rfl rfl rfl rfl (Rn.iload_n (pc2 := 1) rfl rfl rfl (Rn.iconst (pc2 := 2) rfl rfl (Rn.ista (as := [vi ((up3 (up3 (up3 I 26 p 6 g) 26 p 7 now) 26 p 8 1) 26 p 6), vi 3]) (r := []) (ls2 := [some (vi ((up3 (up3 (up3 I 26 p 6 g) 26 p 7 now) 26 p 8 1) 26 p 6)), some (vi 3)]) rfl rfl rfl rfl rfl rfl rfl (Rn.iload_n (pc2 := 1) rfl rfl rfl (Rn.iz_lt (pc2 := 4) rfl rfl (fun q25 => (Rn.iconst (pc2 := 14) rfl rfl (Rn.zret rfl rfl (by decide) (Rf.sm (pc2 := 5) rfl (Rn.iz_eq (pc2 := 8) rfl rfl (fun _ =>  (Rn.vret rfl (Rf.nn (pc2 := 75) rfl (Rn.vret rfl ((h.2 q22).2.1 q25))))) (fun q => absurd (show ((0 : Int) = 0) by decide) q)))))) (fun q25 => (Rn.iload_n (pc2 := 5) rfl rfl rfl (Rn.iload_n (pc2 := 6) rfl rfl rfl (Rn.ic_ge (pc2 := 9) rfl rfl (fun q26 => (Rn.iconst (pc2 := 10) rfl rfl (Rn.goto rfl (Rn.zret rfl rfl (by decide) (Rf.sm (pc2 := 5) rfl (Rn.iz_eq (pc2 := 8) rfl rfl (fun q => absurd q (show (¬ ((1 : Int) = 0)) by decide)) (fun _ =>  (Rn.aload_n (pc2 := 9) rfl rfl rfl (Rn.getR (pc2 := 12) (q := (some (25, (Int.toNat f)))) rfl rfl rfl rfl rfl (Rn.iload_n (pc2 := 13) rfl rfl rfl (Rn.dup2 (pc2 := 14) rfl rfl (Rn.iald (pc2 := 15) (L := 3) rfl rfl rfl (((h.2 q22).2.2 q25).1 q26).1 rfl (Rn.iload_n (pc2 := 16) rfl rfl rfl (Rn.iadd (pc2 := 17) rfl rfl (Rn.iast (pc2 := 18) (L := 3) rfl rfl rfl (((h.2 q22).2.2 q25).1 q26).1 rfl (Rn.vret rfl (Rf.nn (pc2 := 75) rfl (Rn.vret rfl (((h.2 q22).2.2 q25).1 q26).2)))))))))))))))))) (fun q26 => (Rn.iconst (pc2 := 14) rfl rfl (Rn.zret rfl rfl (by decide) (Rf.sm (pc2 := 5) rfl (Rn.iz_eq (pc2 := 8) rfl rfl (fun _ =>  (Rn.vret rfl (Rf.nn (pc2 := 75) rfl (Rn.vret rfl (((h.2 q22).2.2 q25).2 q26))))) (fun q => absurd (show ((0 : Int) = 0) by decide) q))))))))))))))))))))))))))))))))))))

theorem k84_83 {fs : List fr} {I : IT} {cc : Nat → Option Nat} {n c z : Nat} {out : oP} {now : Int} {i : Int} {x5 : Option av} {x6 : Option av} {x7 : Option av} {x8 : Option av} (h : Rn 84 3 [some (vr 21 0), some (vr 3 0), some (vr 1 0), some (vi now), some (vi (wr (i + 1))), x5, x6, x7, x8] [] (fs) I (Cs cc) n c z out) : Rn 84 83 [some (vr 21 0), some (vr 3 0), some (vr 1 0), some (vi now), some (vi i), x5, x6, x7, x8] [] (fs) I (Cs cc) n c z out :=
  (Rn.iinc (pc2 := 86) (ls2 := [some (vr 21 0), some (vr 3 0), some (vr 1 0), some (vi now), some (vi (wr (i + 1))), x5, x6, x7, x8]) rfl rfl rfl rfl (Rn.goto rfl h))

theorem c_lockn_l {fs : List fr} {I S : IT} {cc : Nat → Option Nat} {n c z : Nat} {out : oP} (R : RD I S) (RAh : RA I S) (V : VD S) {s : Int} (h : Rf (Sum.inl (some (vi (-1)))) fs I (Cs cc) n c z out) : ∀ (d k : Nat) (x7 x8 : Option av), k + d = (S 27 0 27).toNat → Rn 85 9 [some (vr 21 0), some (vi s), some (vi (-1)), some (vr 1 0), some (vi (-1)), some (vi (-1)), some (vi (k : Int)), x7, x8] [] fs I (Cs cc) n c z out := by
  have v1 := V.1
  have v2 := V.2.1
  have v6 := V.2.2.2.2.2.1
  have r1 := R.1
  intro d
  induction d with
  | zero =>
    intro k x7 x8 hk
    exact k85_9 ⟨fun h1 => by omega, fun h1 => h⟩
  | succ d ih =>
    intro k x7 x8 hk
    have nx := fun x7 x8 => ih (k + 1) x7 x8 (by omega)
    refine k85_9 ⟨fun h9 => ⟨by omega, ?_⟩, fun h9 => by omega⟩
    refine c_btw RAh v6 (Rf.sm (pc2 := 33) rfl (k85_33 ⟨fun h2 => ?_, fun h2 => absurd (if_neg (by omega)) h2⟩))
    rw [wrI (by omega) (by omega), nS]
    exact nx _ _
theorem c_lockn {fs : List fr} {I S : IT} {cc : Nat → Option Nat} {n c z : Nat} {out : oP} (R : RD I S) (RAh : RA I S) (V : VD S) {s : Int} (h : Rf (Sum.inl (some (vi (-1)))) fs I (Cs cc) n c z out) : Rn 85 0 [some (vr 21 0), some (vi s), some (vi (-1)), some (vr 1 0), none, none, none, none, none] [] fs I (Cs cc) n c z out :=
  k85_0 (c_lockn_l R RAh V h (S 27 0 27).toNat 0 none none (by have := V.1; omega))
theorem RD_agS {I S S2 : IT} (R : RD I S) (h1 : S2 27 0 27 = S 27 0 27) (h2 : S2 27 0 30 = S 27 0 30) (h : ∀ f i j, 48 ≤ f → f ≤ 58 → S2 f i j = S f i j) : RD I S2 := by
  obtain ⟨r1, r2, r3, r4⟩ := R
  refine ⟨by rw [h1]; exact r1, by rw [h2]; exact r2, fun k hk => ?_, fun x hx => ?_⟩
  · rw [h1, h 48 0 k (by omega) (by omega)]
    refine ⟨fun g => ⟨((r3 k hk).1 g).1, fun j hj => ?_⟩, (r3 k hk).2⟩
    rw [h 49 0 _ (by omega) (by omega)]; exact ((r3 k hk).1 g).2 j hj
  · rw [h2, h 50 0 x (by omega) (by omega), h 51 0 x (by omega) (by omega), h 52 0 x (by omega) (by omega), h 53 0 x (by omega) (by omega), h 54 0 x (by omega) (by omega), h 55 0 x (by omega) (by omega), h 56 0 x (by omega) (by omega), h 57 0 x (by omega) (by omega), h 58 0 x (by omega) (by omega)]
    exact r4 x hx
theorem RD_put {I I2 S : IT} (R : RD I S) {p : Nat} {st f g : Int} (hp : (p : Int) < S 27 0 30) (hf0 : 0 ≤ f) (hf1 : f < S 27 0 27) (hg0 : 0 ≤ g) (hg1 : g < 3) (h21 : ∀ i j, I2 21 i j = I 21 i j) (h24 : ∀ i j, I2 24 i j = I 24 i j) (h26 : ∀ x j, I2 26 x j = if x = p ∧ j = 8 then (if st = S 54 0 p then 0 else 1) else if x = p ∧ j = 7 then S 27 0 0 else if x = p ∧ j = 6 then g else if x = p ∧ j = 5 then f else if x = p ∧ j = 4 then 1 else I 26 x j) (h25 : ∀ x j, I2 25 x j = if x = f.toNat ∧ j = g.toNat then wr (S 49 0 (3 * f.toNat + g.toNat) - 1) else I 25 x j) : RD I2 (put9 S p st f g) := by
  obtain ⟨r1, r2, r3, r4⟩ := R
  have eno : ∀ f2 i j, ¬ f2 = 49 → ¬ f2 = 53 → ¬ f2 = 55 → ¬ f2 = 56 → ¬ f2 = 57 → ¬ f2 = 58 → put9 S p st f g f2 i j = S f2 i j := fun f2 i j => put9_no
  have e27 := fun j => eno 27 0 j (by decide) (by decide) (by decide) (by decide) (by decide) (by decide)
  refine ⟨by rw [h21, e27]; exact r1, by rw [h21, e27]; exact r2, fun k hk => ?_, fun x hx => ?_⟩
  · obtain ⟨c1, c2⟩ := r3 k hk
    rw [e27, h24, eno 48 0 k (by decide) (by decide) (by decide) (by decide) (by decide) (by decide)]
    refine ⟨fun q => ⟨(c1 q).1, fun j hj => ?_⟩, fun q j hj => ?_⟩
    · rw [h25, p49]
      by_cases r : k = f.toNat ∧ j = g.toNat
      · rw [if_pos r, if_pos (by rw [r.1, r.2])]
      · rw [if_neg r, if_neg (fun y => r ⟨by omega, by omega⟩)]; exact (c1 q).2 j hj
    · rw [h25, if_neg (fun y => by omega)]; exact c2 q j hj
  · obtain ⟨c1, c2, c3⟩ := r4 x hx
    rw [e27, eno 50 0 x (by decide) (by decide) (by decide) (by decide) (by decide) (by decide), eno 51 0 x (by decide) (by decide) (by decide) (by decide) (by decide) (by decide), eno 52 0 x (by decide) (by decide) (by decide) (by decide) (by decide) (by decide), eno 54 0 x (by decide) (by decide) (by decide) (by decide) (by decide) (by decide), p53, p55, p56, p57, p58]
    by_cases q : x = p
    · subst q
      have m4 : I2 26 x 4 = 1 := by rw [h26, if_neg (by omega), if_neg (by omega), if_neg (by omega), if_neg (by omega), if_pos ⟨rfl, rfl⟩]
      have m5 : I2 26 x 5 = f := by rw [h26, if_neg (by omega), if_neg (by omega), if_neg (by omega), if_pos ⟨rfl, rfl⟩]
      have m6 : I2 26 x 6 = g := by rw [h26, if_neg (by omega), if_neg (by omega), if_pos ⟨rfl, rfl⟩]
      have m7 : I2 26 x 7 = S 27 0 0 := by rw [h26, if_neg (by omega), if_pos ⟨rfl, rfl⟩]
      have m8 : I2 26 x 8 = if st = S 54 0 x then 0 else 1 := by rw [h26, if_pos ⟨rfl, rfl⟩]
      have mm : ∀ j, j < 4 → I2 26 x j = I 26 x j := fun j hj => by rw [h26, if_neg (by omega), if_neg (by omega), if_neg (by omega), if_neg (by omega), if_neg (by omega)]
      rw [m4, m5, m6, m7, m8, mm 0 (by omega), mm 1 (by omega), mm 2 (by omega), mm 3 (by omega), if_pos rfl, if_pos rfl, if_pos rfl, if_pos rfl, if_pos rfl]
      refine ⟨rfl, fun y => ?_, fun y => absurd hp y⟩
      obtain ⟨d0, d1, d2, d3, d4, d5, d6, d8⟩ := c2 hp
      exact ⟨d0, d1, d2, d3, rfl, rfl, rfl, rfl⟩
    · have mm : ∀ j, I2 26 x j = I 26 x j := fun j => by rw [h26, if_neg (fun y => q y.1), if_neg (fun y => q y.1), if_neg (fun y => q y.1), if_neg (fun y => q y.1), if_neg (fun y => q y.1)]
      simp only [mm]
      rw [if_neg q, if_neg q, if_neg q, if_neg q, if_neg q]
      exact ⟨c1, c2, c3⟩
theorem V0_dlv1 {S : IT} {p : Nat} (v : V0 S) : V0 (dlv1 S p) := fun a b ha hb => by rw [dlv1_no (by omega) (by omega) (by omega) (by omega) (by omega) (by omega) (by omega)]; exact v a b ha hb
theorem V1_dlv1 {S : IT} {p : Nat} (v : V1 S) : V1 (dlv1 S p) := fun a b ha hb => by rw [dlv1_no (by omega) (by omega) (by omega) (by omega) (by omega) (by omega) (by omega), dlv1_no (by omega) (by omega) (by omega) (by omega) (by omega) (by omega) (by omega)]; exact v a b ha hb
theorem c_dlv_l {fs : List fr} {cc : Nat → Option Nat} {n c z : Nat} {out : oP} {now T : Int} : ∀ (d p : Nat) (I S : IT) (x5 x6 x7 x8 : Option av), RD I S → VD S → DR I S (S 27 0 1) T → RA I S → V0 S → V1 S → now = S 27 0 0 → p + d = (S 27 0 30).toNat → (∀ I2, RD I2 (dlvF d p S) → (∀ f i j, ¬ f = 26 → ¬ f = 25 → I2 f i j = I f i j) → Rf (Sum.inl none) fs I2 (Cs cc) n c z out) → Rn 84 3 [some (vr 21 0), some (vr 3 0), some (vr 1 0), some (vi now), some (vi (p : Int)), x5, x6, x7, x8] [] fs I (Cs cc) n c z out := by
  intro d
  induction d with
  | zero =>
    intro p I S x5 x6 x7 x8 R V D RAh v0 vs hnow hp h
    have r2 := R.2.1
    exact k84_3 ⟨fun h1 => by omega, fun h1 => h I R (fun _ _ _ _ _ => rfl)⟩
  | succ d ih =>
    intro p I S x5 x6 x7 x8 R V D RAh v0 vs hnow hp h
    have v3 := V.2.2.1
    have v4 := V.2.2.2.1
    have v2 := V.2.1
    have v6 := V.2.2.2.2.2.1
    have r1 := R.1
    have r2 := R.2.1
    have hp2 : (p : Int) < S 27 0 30 := by omega
    obtain ⟨a1, a2, a3, a4, _⟩ := V.2.2.2.2.2.2.2.2.1 p hp2
    obtain ⟨c1, c2, _⟩ := R.2.2.2 p (by omega)
    obtain ⟨d0, d1, d2, d3, d4, d5, d6, d8⟩ := c2 hp2
    have e27 : ∀ j, ¬ j = 40 → dlv1 S p 27 0 j = S 27 0 j := fun j hj => dlv1_no (by omega) (by omega) (by omega) (by omega) (by omega) (by omega) (by omega)
    have go : ∀ I3, RD I3 (dlv1 S p) → (∀ f i j, ¬ f = 26 → ¬ f = 25 → I3 f i j = I f i j) → ∀ x5 x6 x7 x8, Rn 84 3 [some (vr 21 0), some (vr 3 0), some (vr 1 0), some (vi now), some (vi ((p + 1 : Nat) : Int)), x5, x6, x7, x8] [] fs I3 (Cs cc) n c z out := fun I3 hR hI x5 x6 x7 x8 => by
      refine ih (p + 1) I3 (dlv1 S p) x5 x6 x7 x8 hR (VD_dlv1 V hp2) ?_ ?_ (V0_dlv1 v0) (V1_dlv1 vs) (by rw [e27 0 (by omega)]; exact hnow) (by rw [e27 30 (by omega)]; omega) (fun I4 hR4 hI4 => h I4 hR4 (fun f i j g1 g2 => (hI4 f i j g1 g2).trans (hI f i j g1 g2)))
      · rw [e27 1 (by omega)]
        exact DR_ag D dlv1_ag (fun f i j h1 h2 _ => hI f i j (by omega) (by omega))
      · exact RA_agS (RA_ag RAh (fun i j => hI 1 i j (by omega) (by omega)) (fun i j => hI 2 i j (by omega) (by omega))) (e27 1 (by omega)) (e27 2 (by omega)) (fun i j => dlv1_no (by omega) (by omega) (by omega) (by omega) (by omega) (by omega) (by omega))
    refine k84_3 ⟨fun h1 => ?_, fun h1 => by omega⟩
    simp (disch := omega) only [wrI (x := (p : Int) + 1), wrN, Int.toNat_natCast, nS]
    rw [d4]
    refine ⟨by omega, fun h2 => ?_, fun h2 => ?_⟩
    · obtain ⟨D1, D2, D3, D4, D5, D6, D7, D8⟩ := D
      have hin := ld_in D7 (name := S 50 0 p) (num := S 51 0 p)
      have hn4 := D7.2.2.2.1
      have e : dlv1 S p = dlvA (dlvO S p) (ld S (S 50 0 p) (S 51 0 p)) p := if_pos h2
      rw [d0, d1]
      refine c_lead D3 D4 D5 D6 D7 D1 a1 a2 (Rf.sm (pc2 := 43) rfl (k84_43 ?_))
      rw [d1]
      refine c_plat D5 D6 D1 hn4 (Rf.sm (pc2 := 56) rfl (k84_56 ?_))
      rw [d2]
      have eO : ∀ f i j, ¬ (f = 27 ∧ i = 0 ∧ j = 40) → dlvO S p f i j = S f i j := fun f i j hh => up3_no hh
      have RO : RD I (dlvO S p) := RD_agS R (eO _ _ _ (by omega)) (eO _ _ _ (by omega)) (fun f i j h1 h2 => eO _ _ _ (by omega))
      have AO : RA I (dlvO S p) := RA_agS RAh (eO _ _ _ (by omega)) (eO _ _ _ (by omega)) (fun i j => eO _ _ _ (by omega))
      have VO : VD (dlvO S p) := VD_old V
      by_cases hs : ld S (S 50 0 p) (S 51 0 p) < 0
      · rw [show dlvA (dlvO S p) (ld S (S 50 0 p) (S 51 0 p)) p = dlvO S p from if_pos (Or.inl hs)] at e
        rw [show plat S (ld S (S 50 0 p) (S 51 0 p)) (S 51 0 p) = -1 from if_neg (by omega)]
        refine c_lockn R RAh V (Rf.sm (pc2 := 70) rfl (k84_70 ⟨fun h3 => ?_, fun h3 => by omega⟩))
        rw [wrI (by omega) (by omega), nS]
        exact go I (by rw [e]; exact RO) (fun _ _ _ _ _ => rfl) _ _ _ _
      · obtain ⟨q1, q2, q3⟩ : 0 ≤ ld S (S 50 0 p) (S 51 0 p) ∧ ld S (S 50 0 p) (S 51 0 p) < S 27 0 4 ∧ ¬ plc S (ld S (S 50 0 p) (S 51 0 p)).toNat (S 51 0 p) = -1 := by
          rcases hin with q | q | q
          · omega
          · omega
          · exact q
        have hpl := plc_in D6 (s := (ld S (S 50 0 p) (S 51 0 p)).toNat) (by omega) (S 51 0 p)
        rw [show plat S (ld S (S 50 0 p) (S 51 0 p)) (S 51 0 p) = plc S (ld S (S 50 0 p) (S 51 0 p)).toNat (S 51 0 p) from if_pos ⟨q1, q2⟩]
        have V0O : V0 (dlvO S p) := fun a b ha hb => by rw [eO _ _ _ (by omega)]; exact v0 a b ha hb
        have V1O : V1 (dlvO S p) := fun a b ha hb => by rw [eO _ _ _ (by omega), eO _ _ _ (by omega)]; exact vs a b ha hb
        refine c_lock RO AO VO V0O V1O (by omega) (by rw [eO _ _ _ (by omega)]; omega) a3 a4 (Rf.sm (pc2 := 70) rfl (k84_70 ?_))
        have el : lb (dlvO S p) (plc S (ld S (S 50 0 p) (S 51 0 p)).toNat (S 51 0 p)) (S 52 0 p) ((dlvO S p) 27 0 27).toNat = lkr (dlvO S p) (ld S (S 50 0 p) (S 51 0 p)) p := by
          unfold lkr
          rw [show plc (dlvO S p) (ld S (S 50 0 p) (S 51 0 p)).toNat ((dlvO S p) 51 0 p) = plc S (ld S (S 50 0 p) (S 51 0 p)).toNat (S 51 0 p) from plc_ag agD_old _ _, eO 52 0 p (by omega)]
        rw [el, wrI (by omega) (by omega), nS]
        by_cases hk : lkr (dlvO S p) (ld S (S 50 0 p) (S 51 0 p)) p = -1
        · rw [show dlvA (dlvO S p) (ld S (S 50 0 p) (S 51 0 p)) p = dlvO S p from if_pos (Or.inr hk)] at e
          refine ⟨fun h3 => ?_, fun h3 => by omega⟩
          exact go I (by rw [e]; exact RO) (fun _ _ _ _ _ => rfl) _ _ _ _
        · rw [show dlvA (dlvO S p) (ld S (S 50 0 p) (S 51 0 p)) p = _ from if_neg (fun q => q.elim hs hk)] at e
          obtain ⟨f0, f1, f2⟩ := lkr_in VO hk
          rw [eO 27 0 27 (by omega)] at f1
          rw [eO 52 0 p (by omega)] at f2 e
          generalize hF : lkr (dlvO S p) (ld S (S 50 0 p) (S 51 0 p)) p = F at *
          have h4 := szo_in (S := dlvO S p) (l := F.toNat) a3 a4
          generalize hG : szo (dlvO S p) F.toNat (S 52 0 p) = G at *
          refine ⟨fun h3 => by omega, fun h3 => ⟨fun h5 => ⟨by omega, ?_⟩, fun h5 => by omega⟩⟩
          have e2 : (up3 (up3 I 26 p 4 1) 26 p 5 F) 26 p 2 = S 52 0 p := by rw [up3_ati, if_neg (by omega), up3_ati, if_neg (by omega)]; exact d2
          rw [e2]
          have hr9 : ∀ j : Nat, j < 3 → (up3 (up3 I 26 p 4 1) 26 p 5 F) 25 F.toNat j = (dlvO S p) 49 0 (3 * F.toNat + j) := fun j hj => by
            rw [up3_nf (by decide), up3_nf (by decide)]
            exact ((RO.2.2.1 F.toNat (by omega)).1 (by rw [eO _ _ _ (by omega)]; omega)).2 j hj
          have hGe : (if szo (dlvO S p) F.toNat (S 52 0 p) = 3 then (-1 : Int) else szo (dlvO S p) F.toNat (S 52 0 p)) = G := by rw [hG, if_neg (by omega)]
          refine c_size (S := dlvO S p) hr9 (fun x hx => (VO.2.2.2.2.2.2.2.1 x hx).1) (by omega) a3 a4 (Rf.sm (pc2 := 35) rfl ?_)
          rw [hGe]
          have e3 : ∀ v, (up3 (up3 (up3 (up3 I 26 p 4 1) 26 p 5 F) 26 p 6 G) 26 p 7 v) 26 p 3 = S 54 0 p := fun v => by
            rw [up3_ati, if_neg (by omega), up3_ati, if_neg (by omega), up3_ati, if_neg (by omega), up3_ati, if_neg (by omega)]; exact d3
          have e6 : ∀ v w, (up3 (up3 (up3 (up3 (up3 I 26 p 4 1) 26 p 5 F) 26 p 6 G) 26 p 7 v) 26 p 8 w) 26 p 6 = G := fun v w => by
            rw [up3_ati, if_neg (by omega), up3_ati, if_neg (by omega), up3_ati, if_pos ⟨rfl, rfl⟩]
          have e25 : (up3 (up3 I 26 p 4 1) 26 p 5 F) 25 F.toNat G.toNat = (dlvO S p) 49 0 (3 * F.toNat + G.toNat) := hr9 _ (by omega)
          have fin9 : ∀ w, (if ld S (S 50 0 p) (S 51 0 p) = S 54 0 p then (0 : Int) else 1) = w → Rn 84 3 [some (vr 21 0), some (vr 3 0), some (vr 1 0), some (vi now), some (vi ((p + 1 : Nat) : Int)), some (vr 26 p), some (vi (ld S (S 50 0 p) (S 51 0 p))), some (vi (plc S (ld S (S 50 0 p) (S 51 0 p)).toNat (S 51 0 p))), some (vi F)] [] fs (up3 (up3 (up3 (up3 (up3 (up3 I 26 p 4 1) 26 p 5 F) 26 p 6 G) 26 p 7 now) 26 p 8 w) 25 F.toNat G.toNat (wr ((dlvO S p) 49 0 (3 * F.toNat + G.toNat) + (-1)))) (Cs cc) n c z out := by
            intro w hw
            refine go _ ?_ (fun f i j g1 g2 => by rw [up3_nf g2, up3_nf g1, up3_nf g1, up3_nf g1, up3_nf g1, up3_nf g1]) _ _ _ _
            rw [e]
            refine RD_put RO (by rw [eO _ _ _ (by omega)]; exact hp2) f0 (by rw [eO _ _ _ (by omega)]; exact f1) (by omega) (by omega) (fun i j => by rw [up3_nf (by decide), up3_nf (by decide), up3_nf (by decide), up3_nf (by decide), up3_nf (by decide), up3_nf (by decide)]) (fun i j => by rw [up3_nf (by decide), up3_nf (by decide), up3_nf (by decide), up3_nf (by decide), up3_nf (by decide), up3_nf (by decide)]) (fun x j => ?_) (fun x j => ?_)
            · rw [up3_nf (by decide), eO 54 0 p (by omega), hw, eO 27 0 0 (by omega), ← hnow, up3_ati, up3_ati, up3_ati, up3_ati, up3_ati]
            · rw [up3_ati, up3_nf (by decide), up3_nf (by decide), up3_nf (by decide), up3_nf (by decide), up3_nf (by decide)]; rfl
          refine k86_35 ⟨fun h7 => ⟨by omega, ?_⟩, fun h7 => ⟨by omega, ?_⟩⟩
          · rw [e3] at h7
            rw [e6, e25]
            refine ⟨fun h8 => by omega, fun h8 => ⟨fun h9 => ⟨by omega, Rf.nn (pc2 := 83) rfl (k84_83 ?_)⟩, fun h9 => by omega⟩⟩
            rw [wrI (x := (p : Int) + 1) (by omega) (by omega), nS]
            exact fin9 0 (if_pos h7)
          · rw [e3] at h7
            rw [e6, e25]
            refine ⟨fun h8 => by omega, fun h8 => ⟨fun h9 => ⟨by omega, Rf.nn (pc2 := 83) rfl (k84_83 ?_)⟩, fun h9 => by omega⟩⟩
            rw [wrI (x := (p : Int) + 1) (by omega) (by omega), nS]
            exact fin9 1 (if_neg h7)
    · rw [show dlv1 S p = S from if_neg h2] at go
      exact go I R (fun _ _ _ _ _ => rfl) _ _ _ _


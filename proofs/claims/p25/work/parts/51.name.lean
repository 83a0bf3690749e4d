theorem k141_0 {fs : List fr} {I : IT} {cc : Nat → Option Nat} {n c z : Nat} {out : oP} {s : Int} {x : Int} (h : ((s < 0) → (Rf (Sum.inl (some (vi 1))) fs I (Cs cc) n (c + 1) (z + 6) out)) ∧ (¬ (s < 0) → (((s < (I 3 0 0)) → (((x < 0) → (Rf (Sum.inl (some (vi 1))) fs I (Cs cc) n (c + 1) (z + 6) out)) ∧ (¬ (x < 0) → (((x < 30) → ((0 ≤ s ∧ s < 12) ∧ ((((I 14 (12 * 0 + (Int.toNat s)) 0) = x) → (Rf (Sum.inl (some (vi 2))) fs I (Cs cc) n (c + 1) (z + 6) out)) ∧ (¬ ((I 14 (12 * 0 + (Int.toNat s)) 0) = x) → ((((I 3 0 5) < 100) → ((0 ≤ (I 3 0 5) ∧ (I 3 0 5) < 100) ∧ ((((I 14 (12 * 0 + (Int.toNat s)) 0) < 0) → (Rf (Sum.inl (some (vi 0))) fs (up3 (up3 (up3 (up3 (up3 (up3 I 7 0 (Int.toNat (I 3 0 5)) s) 8 0 (Int.toNat (I 3 0 5)) x) 9 0 (Int.toNat (I 3 0 5)) (I 0 0 4)) 3 0 5 (wr ((I 3 0 5) + 1))) 14 (12 * 0 + (Int.toNat s)) 0 x) 59 0 (Int.toNat 0) (I 14 (12 * 0 + (Int.toNat s)) 0)) (Cs cc) n c z out)) ∧ (¬ ((I 14 (12 * 0 + (Int.toNat s)) 0) < 0) → ((((I 14 (12 * 0 + (Int.toNat s)) 0) < 30) → ((0 ≤ (I 14 (12 * 0 + (Int.toNat s)) 0) ∧ (I 14 (12 * 0 + (Int.toNat s)) 0) < 30) ∧ (Rf (Sum.inl (some (vi 0))) fs (up3 (up3 (up3 (up3 (up3 (up3 (up3 I 7 0 (Int.toNat (I 3 0 5)) s) 8 0 (Int.toNat (I 3 0 5)) x) 9 0 (Int.toNat (I 3 0 5)) (I 0 0 4)) 3 0 5 (wr ((I 3 0 5) + 1))) 15 (12 * 0 + (Int.toNat s)) (Int.toNat (I 14 (12 * 0 + (Int.toNat s)) 0)) (I 0 0 4)) 14 (12 * 0 + (Int.toNat s)) 0 x) 59 0 (Int.toNat 0) (I 14 (12 * 0 + (Int.toNat s)) 0)) (Cs cc) n c z out))) ∧ (¬ ((I 14 (12 * 0 + (Int.toNat s)) 0) < 30) → (Rf (Sum.inl (some (vi 0))) fs (up3 (up3 (up3 (up3 (up3 (up3 I 7 0 (Int.toNat (I 3 0 5)) s) 8 0 (Int.toNat (I 3 0 5)) x) 9 0 (Int.toNat (I 3 0 5)) (I 0 0 4)) 3 0 5 (wr ((I 3 0 5) + 1))) 14 (12 * 0 + (Int.toNat s)) 0 x) 59 0 (Int.toNat 0) (I 14 (12 * 0 + (Int.toNat s)) 0)) (Cs cc) n c z out))))))) ∧ (¬ ((I 3 0 5) < 100) → (Rf (Sum.inl (some (vi 2))) fs I (Cs cc) n (c + 1) (z + 6) out))))))) ∧ (¬ (x < 30) → (Rf (Sum.inl (some (vi 1))) fs I (Cs cc) n (c + 1) (z + 6) out)))))) ∧ (¬ (s < (I 3 0 0)) → (Rf (Sum.inl (some (vi 1))) fs I (Cs cc) n (c + 1) (z + 6) out))))) : Rn 141 0 [some (vr 0 0), some (vi s), some (vi x), some (vr 59 0), none] [] (fs) I (Cs cc) n c z out :=
  (Rn.aload_n (pc2 := 1) rfl rfl rfl (Rn.iconst (pc2 := 2) rfl rfl (Rn.aload_n (pc2 := 3) rfl rfl rfl (Rn.iload_n (pc2 := 4) rfl rfl rfl (Rn.iload_n (pc2 := 5) rfl rfl rfl (Rn.ivir (as := [vi s, vi x]) (r := [vi 0, vr 59 0]) (ls2 := [some (vr 0 0), some (vi s), some (vi x), none]) (f := 0) (i := 0) rfl rfl rfl rfl rfl rfl rfl (Rn.aload_n (pc2 := 1) rfl rfl rfl (Rn.iload_n (pc2 := 2) rfl rfl rfl (Rn.ivir (as := [vi s]) (r := []) (ls2 := [some (vr 0 0), some (vi s)]) (f := 0) (i := 0) rfl rfl rfl rfl rfl rfl rfl (Rn.iload_n (pc2 := 1) rfl rfl rfl (Rn.aload_n (pc2 := 2) rfl rfl rfl (Rn.getR (pc2 := 5) (q := (some (3, 0))) rfl rfl rfl rfl rfl (Rn.getI (pc2 := 8) rfl rfl rfl rfl (Rn.ista (as := [vi s, vi (I 3 0 0)]) (r := []) (ls2 := [some (vi s), some (vi (I 3 0 0))]) rfl rfl rfl rfl rfl rfl rfl (Rn.iload_n (pc2 := 1) rfl rfl rfl (Rn.iz_lt (pc2 := 4) rfl rfl (fun q53 => (Rn.iconst (pc2 := 14) rfl rfl (Rn.zret rfl rfl (by decide) (Rf.sm (pc2 := 11) rfl (Rn.iz_ne (pc2 := 14) rfl rfl (fun _ =>  (Rn.thr (c2 := c + 1) (z2 := z + 6) rfl rfl rfl rfl (Rf.prop rfl (Rf.catch (ls2 := [some (vr 0 0), some (vi s), some (vi x), some (vr 59 0), none]) (hp := 15) rfl rfl (Rn.iconst (pc2 := 16) rfl rfl (Rn.iret rfl rfl (h.1 q53))))))) (fun q => absurd (show ((0 : Int) = 0) by decide) q)))))) (fun q53 => (Rn.iload_n (pc2 := 5) rfl rfl rfl (Rn.iload_n (pc2 := 6) rfl rfl rfl (Rn.ic_ge (pc2 := 9) rfl rfl (fun q54 => (Rn.iconst (pc2 := 10) rfl rfl (Rn.goto rfl (Rn.zret rfl rfl (by decide) (Rf.sm (pc2 := 11) rfl (Rn.iz_ne (pc2 := 14) rfl rfl (fun q => absurd q (show (¬ ((1 : Int) = 0)) by decide)) (fun _ =>  (Rn.vret rfl (Rf.nn (pc2 := 5) rfl (Rn.iload_n (pc2 := 6) rfl rfl rfl (Rn.ista (as := [vi x]) (r := []) (ls2 := [some (vi x)]) rfl rfl rfl rfl rfl rfl rfl (Rn.iload_n (pc2 := 1) rfl rfl rfl (Rn.bipush (pc2 := 3) rfl rfl (Rn.ista (as := [vi x, vi 30]) (r := []) (ls2 := [some (vi x), some (vi 30)]) rfl rfl rfl rfl rfl rfl rfl (Rn.iload_n (pc2 := 1) rfl rfl rfl (Rn.iz_lt (pc2 := 4) rfl rfl (fun q55 => (Rn.iconst (pc2 := 14) rfl rfl (Rn.zret rfl rfl (by decide) (Rf.sm (pc2 := 6) rfl (Rn.iz_ne (pc2 := 9) rfl rfl (fun _ =>  (Rn.thr (c2 := c + 1) (z2 := z + 6) rfl rfl rfl rfl (Rf.prop rfl (Rf.catch (ls2 := [some (vr 0 0), some (vi s), some (vi x), some (vr 59 0), none]) (hp := 15) rfl rfl (Rn.iconst (pc2 := 16) rfl rfl (Rn.iret rfl rfl (((h.2 q53).1 q54).1 q55))))))) (fun q => absurd (show ((0 : Int) = 0) by decide) q)))))) (fun q55 => (Rn.iload_n (pc2 := 5) rfl rfl rfl (Rn.iload_n (pc2 := 6) rfl rfl rfl (Rn.ic_ge (pc2 := 9) rfl rfl (fun q56 => (Rn.iconst (pc2 := 10) rfl rfl (Rn.goto rfl (Rn.zret rfl rfl (by decide) (Rf.sm (pc2 := 6) rfl (Rn.iz_ne (pc2 := 9) rfl rfl (fun q => absurd q (show (¬ ((1 : Int) = 0)) by decide)) (fun _ =>  (Rn.vret rfl (Rf.nn (pc2 := 9) rfl (Rn.aload_n (pc2 := 10) rfl rfl rfl (Rn.getR (pc2 := 13) (q := (some (3, 0))) rfl rfl rfl rfl rfl (Rn.iload_n (pc2 := 14) rfl rfl rfl (Rn.ivir (as := [vi s]) (r := []) (ls2 := [some (vr 3 0), some (vi s)]) (f := 3) (i := 0) rfl rfl rfl rfl rfl rfl rfl (Rn.iload_n (pc2 := 1) rfl rfl rfl (Rn.aload_n (pc2 := 2) rfl rfl rfl (Rn.getI (pc2 := 5) rfl rfl rfl rfl (Rn.ista (as := [vi s, vi (I 3 0 0)]) (r := []) (ls2 := [some (vi s), some (vi (I 3 0 0))]) rfl rfl rfl rfl rfl rfl rfl (Rn.iload_n (pc2 := 1) rfl rfl rfl (Rn.iz_lt (pc2 := 4) rfl rfl (fun q => absurd q q53) (fun _ => (Rn.iload_n (pc2 := 5) rfl rfl rfl (Rn.iload_n (pc2 := 6) rfl rfl rfl (Rn.ic_ge (pc2 := 9) rfl rfl (fun _ => (Rn.iconst (pc2 := 10) rfl rfl (Rn.goto rfl (Rn.zret rfl rfl (by decide) (Rf.sm (pc2 := 8) rfl (Rn.iz_ne (pc2 := 11) rfl rfl (fun q => absurd q (show (¬ ((1 : Int) = 0)) by decide)) (fun _ =>  (Rn.aload_n (pc2 := 14) rfl rfl rfl (Rn.getR (pc2 := 17) (q := (some (5, 0))) rfl rfl rfl rfl rfl (Rn.iload_n (pc2 := 18) rfl rfl rfl (Rn.aald (pc2 := 19) (L := 12) (q := (some (14, (12 * 0 + (Int.toNat s))))) rfl rfl rfl rfl ((((h.2 q53).1 q54).2 q55).1 q56).1 rfl rfl (Rn.getI (pc2 := 22) rfl rfl rfl rfl (Rn.iret rfl rfl (Rf.sm (pc2 := 17) rfl (Rn.iload_n (pc2 := 18) rfl rfl rfl (Rn.ic_ne (pc2 := 21) rfl rfl (fun q57 => (Rn.thr (c2 := c + 1) (z2 := z + 6) rfl rfl rfl rfl (Rf.catch (ls2 := [some (vr 0 0), some (vi s), some (vi x), some (vr 59 0), none]) (hp := 19) rfl rfl (Rn.iconst (pc2 := 20) rfl rfl (Rn.iret rfl rfl (((((h.2 q53).1 q54).2 q55).1 q56).2.1 q57)))))) (fun q57 => (Rn.aload_n (pc2 := 32) rfl rfl rfl (Rn.getR (pc2 := 35) (q := (some (3, 0))) rfl rfl rfl rfl rfl (Rn.getI (pc2 := 38) rfl rfl rfl rfl (Rn.bipush (pc2 := 40) rfl rfl (Rn.ic_lt (pc2 := 43) rfl rfl (fun q58 => (Rn.aload_n (pc2 := 54) rfl rfl rfl (Rn.getR (pc2 := 57) (q := (some (3, 0))) rfl rfl rfl rfl rfl (Rn.iload_n (pc2 := 58) rfl rfl rfl (Rn.ivir (as := [vi s]) (r := []) (ls2 := [some (vr 3 0), some (vi s)]) (f := 3) (i := 0) rfl rfl rfl rfl rfl rfl rfl (Rn.iload_n (pc2 := 1) rfl rfl rfl (Rn.aload_n (pc2 := 2) rfl rfl rfl (Rn.getI (pc2 := 5) rfl rfl rfl rfl (Rn.ista (as := [vi s, vi (I 3 0 0)]) (r := []) (ls2 := [some (vi s), some (vi (I 3 0 0))]) rfl rfl rfl rfl rfl rfl rfl (Rn.iload_n (pc2 := 1) rfl rfl rfl (Rn.iz_lt (pc2 := 4) rfl rfl (fun q => absurd q q53) (fun _ => (Rn.iload_n (pc2 := 5) rfl rfl rfl (Rn.iload_n (pc2 := 6) rfl rfl rfl (Rn.ic_ge (pc2 := 9) rfl rfl (fun _ => (Rn.iconst (pc2 := 10) rfl rfl (Rn.goto rfl (Rn.zret rfl rfl (by decide) (Rf.sm (pc2 := 8) rfl (Rn.iz_ne (pc2 := 11) rfl rfl (fun q => absurd q (show (¬ ((1 : Int) = 0)) by decide)) (fun _ =>  (Rn.aload_n (pc2 := 14) rfl rfl rfl (Rn.getR (pc2 := 17) (q := (some (5, 0))) rfl rfl rfl rfl rfl (Rn.iload_n (pc2 := 18) rfl rfl rfl (Rn.aald (pc2 := 19) (L := 12) (q := (some (14, (12 * 0 + (Int.toNat s))))) rfl rfl rfl rfl ((((h.2 q53).1 q54).2 q55).1 q56).1 rfl rfl (Rn.getI (pc2 := 22) rfl rfl rfl rfl (Rn.iret rfl rfl (Rf.sm (pc2 := 61) rfl (Rn.istore_n (pc2 := 62) (ls2 := [some (vr 0 0), some (vi s), some (vi x), some (vi (I 14 (12 * 0 + (Int.toNat s)) 0))]) rfl rfl rfl (Rn.aload_n (pc2 := 63) rfl rfl rfl (Rn.getR (pc2 := 66) (q := (some (3, 0))) rfl rfl rfl rfl rfl (Rn.iload_n (pc2 := 67) rfl rfl rfl (Rn.iload_n (pc2 := 68) rfl rfl rfl (Rn.aload_n (pc2 := 69) rfl rfl rfl (Rn.getI (pc2 := 72) rfl rfl rfl rfl (Rn.ivir (as := [vi s, vi x, vi (I 0 0 4)]) (r := []) (ls2 := [some (vr 3 0), some (vi s), some (vi x), some (vi (I 0 0 4))]) (f := 3) (i := 0) rfl rfl rfl rfl rfl rfl rfl (Rn.iload_n (pc2 := 1) rfl rfl rfl (Rn.aload_n (pc2 := 2) rfl rfl rfl (Rn.getI (pc2 := 5) rfl rfl rfl rfl (Rn.ista (as := [vi s, vi (I 3 0 0)]) (r := []) (ls2 := [some (vi s), some (vi (I 3 0 0))]) rfl rfl rfl rfl rfl rfl rfl (Rn.iload_n (pc2 := 1) rfl rfl rfl (Rn.iz_lt (pc2 := 4) rfl rfl (fun q => absurd q q53) (fun _ => (Rn.iload_n (pc2 := 5) rfl rfl rfl (Rn.iload_n (pc2 := 6) rfl rfl rfl (Rn.ic_ge (pc2 := 9) rfl rfl (fun _ => (Rn.iconst (pc2 := 10) rfl rfl (Rn.goto rfl (Rn.zret rfl rfl (by decide) (Rf.sm (pc2 := 8) rfl (Rn.iz_eq (pc2 := 11) rfl rfl (fun q => absurd q (show (¬ ((1 : Int) = 0)) by decide)) (fun _ =>  (Rn.aload_n (pc2 := 12) rfl rfl rfl (Rn.getI (pc2 := 15) rfl rfl rfl rfl (Rn.bipush (pc2 := 17) rfl rfl (Rn.ic_ge (pc2 := 20) rfl rfl (fun _ => (Rn.aload_n (pc2 := 21) rfl rfl rfl (Rn.getR (pc2 := 24) (q := (some (7, 0))) rfl rfl rfl rfl rfl (Rn.aload_n (pc2 := 25) rfl rfl rfl (Rn.getI (pc2 := 28) rfl rfl rfl rfl (Rn.iload_n (pc2 := 29) rfl rfl rfl (Rn.iast (pc2 := 30) (L := 100) rfl rfl rfl ((((((h.2 q53).1 q54).2 q55).1 q56).2.2 q57).1 q58).1 rfl (Rn.aload_n (pc2 := 31) rfl rfl rfl (Rn.getR (pc2 := 34) (q := (some (8, 0))) rfl rfl rfl rfl rfl (Rn.aload_n (pc2 := 35) rfl rfl rfl (Rn.getI (pc2 := 38) rfl rfl rfl rfl (Rn.iload_n (pc2 := 39) rfl rfl rfl (Rn.iast (pc2 := 40) (L := 100) rfl rfl rfl ((((((h.2 q53).1 q54).2 q55).1 q56).2.2 q57).1 q58).1 rfl (Rn.aload_n (pc2 := 41) rfl rfl rfl (Rn.getR (pc2 := 44) (q := (some (9, 0))) rfl rfl rfl rfl rfl (Rn.aload_n (pc2 := 45) rfl rfl rfl (Rn.getI (pc2 := 48) rfl rfl rfl rfl (Rn.iload_n (pc2 := 49) rfl rfl rfl (Rn.iast (pc2 := 50) (L := 100) rfl rfl rfl ((((((h.2 q53).1 q54).2 q55).1 q56).2.2 q57).1 q58).1 rfl (Rn.aload_n (pc2 := 51) rfl rfl rfl (Rn.dupR (pc2 := 52) rfl rfl (Rn.getI (pc2 := 55) rfl rfl rfl rfl (Rn.iconst (pc2 := 56) rfl rfl (Rn.iadd (pc2 := 57) rfl rfl (Rn.putI (pc2 := 60) rfl rfl rfl rfl rfl (Rn.aload_n (pc2 := 61) rfl rfl rfl (Rn.getR (pc2 := 64) (q := (some (5, 0))) rfl rfl rfl rfl rfl (Rn.iload_n (pc2 := 65) rfl rfl rfl (Rn.aald (pc2 := 66) (L := 12) (q := (some (14, (12 * 0 + (Int.toNat s))))) rfl rfl rfl rfl ((((h.2 q53).1 q54).2 q55).1 q56).1 rfl rfl (Rn.iload_n (pc2 := 67) rfl rfl rfl (Rn.iload_n (pc2 := 68) rfl rfl rfl (Rn.ivir (as := [vi x, vi (I 0 0 4)]) (r := []) (ls2 := [some (vr 14 (12 * 0 + (Int.toNat s))), some (vi x), some (vi (I 0 0 4))]) (f := 14) (i := (12 * 0 + (Int.toNat s))) rfl rfl rfl rfl rfl rfl rfl (Rn.aload_n (pc2 := 1) rfl rfl rfl (Rn.getI (pc2 := 4) rfl rfl rfl rfl (Rn.bipush (pc2 := 6) rfl rfl (Rn.ista (as := [vi (I 14 (12 * 0 + (Int.toNat s)) 0), vi 30]) (r := []) (ls2 := [some (vi (I 14 (12 * 0 + (Int.toNat s)) 0)), some (vi 30)]) rfl rfl rfl rfl rfl rfl rfl (Rn.iload_n (pc2 := 1) rfl rfl rfl (Rn.iz_lt (pc2 := 4) rfl rfl (fun q59 => (Rn.iconst (pc2 := 14) rfl rfl (Rn.zret rfl rfl (by decide) (Rf.sm (pc2 := 9) rfl (Rn.iz_eq (pc2 := 12) rfl rfl (fun _ =>  (Rn.aload_n (pc2 := 23) rfl rfl rfl (Rn.iload_n (pc2 := 24) rfl rfl rfl (Rn.putI (pc2 := 27) rfl rfl rfl rfl rfl (Rn.vret rfl (Rf.nn (pc2 := 71) rfl (Rn.vret rfl (Rf.nn (pc2 := 75) rfl (Rn.iload_n (pc2 := 76) rfl rfl rfl (Rn.iret rfl rfl (Rf.sm (pc2 := 8) rfl (Rn.i2l (pc2 := 9) rfl rfl (Rn.last (pc2 := 10) (L := 1) rfl rfl rfl (by decide) rfl (Rn.goto rfl (Rn.iconst (pc2 := 22) rfl rfl (Rn.iret rfl rfl (((((((h.2 q53).1 q54).2 q55).1 q56).2.2 q57).1 q58).2.1 q59))))))))))))))))) (fun q => absurd (show ((0 : Int) = 0) by decide) q)))))) (fun q59 => (Rn.iload_n (pc2 := 5) rfl rfl rfl (Rn.iload_n (pc2 := 6) rfl rfl rfl (Rn.ic_ge (pc2 := 9) rfl rfl (fun q60 => (Rn.iconst (pc2 := 10) rfl rfl (Rn.goto rfl (Rn.zret rfl rfl (by decide) (Rf.sm (pc2 := 9) rfl (Rn.iz_eq (pc2 := 12) rfl rfl (fun q => absurd q (show (¬ ((1 : Int) = 0)) by decide)) (fun _ =>  (Rn.aload_n (pc2 := 13) rfl rfl rfl (Rn.getR (pc2 := 16) (q := (some (15, (12 * 0 + (Int.toNat s))))) rfl rfl rfl rfl rfl (Rn.aload_n (pc2 := 17) rfl rfl rfl (Rn.getI (pc2 := 20) rfl rfl rfl rfl (Rn.iload_n (pc2 := 21) rfl rfl rfl (Rn.iast (pc2 := 22) (L := 30) rfl rfl rfl ((((((((h.2 q53).1 q54).2 q55).1 q56).2.2 q57).1 q58).2.2 q59).1 q60).1 rfl (Rn.aload_n (pc2 := 23) rfl rfl rfl (Rn.iload_n (pc2 := 24) rfl rfl rfl (Rn.putI (pc2 := 27) rfl rfl rfl rfl rfl (Rn.vret rfl (Rf.nn (pc2 := 71) rfl (Rn.vret rfl (Rf.nn (pc2 := 75) rfl (Rn.iload_n (pc2 := 76) rfl rfl rfl (Rn.iret rfl rfl (Rf.sm (pc2 := 8) rfl (Rn.i2l (pc2 := 9) rfl rfl (Rn.last (pc2 := 10) (L := 1) rfl rfl rfl (by decide) rfl (Rn.goto rfl (Rn.iconst (pc2 := 22) rfl rfl (Rn.iret rfl rfl ((((((((h.2 q53).1 q54).2 q55).1 q56).2.2 q57).1 q58).2.2 q59).1 q60).2)))))))))))))))))))))))))))) (fun q60 => (Rn.iconst (pc2 := 14) rfl rfl (Rn.zret rfl rfl (by decide) (Rf.sm (pc2 := 9) rfl (Rn.iz_eq (pc2 := 12) rfl rfl (fun _ =>  (Rn.aload_n (pc2 := 23) rfl rfl rfl (Rn.iload_n (pc2 := 24) rfl rfl rfl (Rn.putI (pc2 := 27) rfl rfl rfl rfl rfl (Rn.vret rfl (Rf.nn (pc2 := 71) rfl (Rn.vret rfl (Rf.nn (pc2 := 75) rfl (Rn.iload_n (pc2 := 76) rfl rfl rfl (Rn.iret rfl rfl (Rf.sm (pc2 := 8) rfl (Rn.i2l (pc2 := 9) rfl rfl (Rn.last (pc2 := 10) (L := 1) rfl rfl rfl (by decide) rfl (Rn.goto rfl (Rn.iconst (pc2 := 22) rfl rfl (Rn.iret rfl rfl ((((((((h.2 q53).1 q54).2 q55).1 q56).2.2 q57).1 q58).2.2 q59).2 q60))))))))))))))))) (fun q => absurd (show ((0 : Int) = 0) by decide) q)))))))))))))))))))))))))))))))))))))))))))))))) (fun q => absurd q58 q)))))))))))) (fun q => absurd q54 q))))))))))))))))))))))))))))))))) (fun q => absurd q54 q)))))))))))))))) (fun q58 => (Rn.thr (c2 := c + 1) (z2 := z + 6) rfl rfl rfl rfl (Rf.catch (ls2 := [some (vr 0 0), some (vi s), some (vi x), some (vr 59 0), none]) (hp := 19) rfl rfl (Rn.iconst (pc2 := 20) rfl rfl (Rn.iret rfl rfl ((((((h.2 q53).1 q54).2 q55).1 q56).2.2 q57).2 q58)))))))))))))))))))))))))))) (fun q => absurd q54 q)))))))))))))))))))))))) (fun q56 => (Rn.iconst (pc2 := 14) rfl rfl (Rn.zret rfl rfl (by decide) (Rf.sm (pc2 := 6) rfl (Rn.iz_ne (pc2 := 9) rfl rfl (fun _ =>  (Rn.thr (c2 := c + 1) (z2 := z + 6) rfl rfl rfl rfl (Rf.prop rfl (Rf.catch (ls2 := [some (vr 0 0), some (vi s), some (vi x), some (vr 59 0), none]) (hp := 15) rfl rfl (Rn.iconst (pc2 := 16) rfl rfl (Rn.iret rfl rfl ((((h.2 q53).1 q54).2 q55).2 q56))))))) (fun q => absurd (show ((0 : Int) = 0) by decide) q)))))))))))))))))))))))))) (fun q54 => (Rn.iconst (pc2 := 14) rfl rfl (Rn.zret rfl rfl (by decide) (Rf.sm (pc2 := 11) rfl (Rn.iz_ne (pc2 := 14) rfl rfl (fun _ =>  (Rn.thr (c2 := c + 1) (z2 := z + 6) rfl rfl rfl rfl (Rf.prop rfl (Rf.catch (ls2 := [some (vr 0 0), some (vi s), some (vi x), some (vr 59 0), none]) (hp := 15) rfl rfl (Rn.iconst (pc2 := 16) rfl rfl (Rn.iret rfl rfl ((h.2 q53).2 q54))))))) (fun q => absurd (show ((0 : Int) = 0) by decide) q))))))))))))))))))))))))))

theorem k44_0 {fs : List fr} {I : IT} {cc : Nat → Option Nat} {n c z : Nat} {out : oP} {s : Int} {x : Int} (h : ((s < 0) → (Rf (Sum.inl (some (vi 0))) fs (up3 I 27 0 41 1) (Cs cc) n c z out)) ∧ (¬ (s < 0) → ((((wr ((I 27 0 4) - 1)) < s) → (Rf (Sum.inl (some (vi 0))) fs (up3 I 27 0 41 1) (Cs cc) n c z out)) ∧ (¬ ((wr ((I 27 0 4) - 1)) < s) → (((x < 0) → (Rf (Sum.inl (some (vi 0))) fs (up3 I 27 0 41 1) (Cs cc) n c z out)) ∧ (¬ (x < 0) → (((29 < x) → (Rf (Sum.inl (some (vi 0))) fs (up3 I 27 0 41 1) (Cs cc) n c z out)) ∧ (¬ (29 < x) → (Rn 43 0 [some (vr 27 0), some (vi s), none, none] [] ((44, 35, [some (vr 27 0), some (vi s), some (vi x), none, none], []) :: fs) (up3 I 27 0 41 0) (Cs cc) n c z out))))))))) : Rn 44 0 [some (vr 27 0), some (vi s), some (vi x), none, none] [] (fs) I (Cs cc) n c z out :=
  (Rn.aload_n (pc2 := 1) rfl rfl rfl (Rn.aload_n (pc2 := 2) rfl rfl rfl (Rn.iload_n (pc2 := 3) rfl rfl rfl (Rn.ivir (as := [vi s]) (r := [vr 27 0]) (ls2 := [some (vr 27 0), some (vi s)]) (f := 27) (i := 0) rfl rfl rfl rfl rfl rfl rfl (Rn.iload_n (pc2 := 1) rfl rfl rfl (Rn.iconst (pc2 := 2) rfl rfl (Rn.aload_n (pc2 := 3) rfl rfl rfl (Rn.getI (pc2 := 6) rfl rfl rfl rfl (Rn.iconst (pc2 := 7) rfl rfl (Rn.isub (pc2 := 8) rfl rfl (Rn.ista (as := [vi s, vi 0, vi (wr ((I 27 0 4) - 1))]) (r := []) (ls2 := [some (vi s), some (vi 0), some (vi (wr ((I 27 0 4) - 1)))]) rfl rfl rfl rfl rfl rfl rfl (Rn.iload_n (pc2 := 1) rfl rfl rfl (Rn.iload_n (pc2 := 2) rfl rfl rfl (Rn.ic_lt (pc2 := 5) rfl rfl (fun q61 => (Rn.iconst (pc2 := 15) rfl rfl (Rn.zret rfl rfl (by decide) (Rf.sm (pc2 := 11) rfl (Rn.zret rfl rfl (by decide) (Rf.sm (pc2 := 6) rfl (Rn.iz_eq (pc2 := 9) rfl rfl (fun _ =>  (Rn.iconst (pc2 := 17) rfl rfl (Rn.goto rfl (Rn.putI (pc2 := 24) rfl rfl rfl rfl rfl (Rn.aload_n (pc2 := 25) rfl rfl rfl (Rn.getI (pc2 := 28) rfl rfl rfl rfl (Rn.iz_le (pc2 := 31) rfl rfl (fun _ =>  (Rn.iconst (pc2 := 32) rfl rfl (Rn.iret rfl rfl (h.1 q61)))) (fun q => absurd (show ((0 : Int) < 1) by decide) q)))))))) (fun q => absurd (show ((0 : Int) = 0) by decide) q)))))))) (fun q61 => (Rn.iload_n (pc2 := 6) rfl rfl rfl (Rn.iload_n (pc2 := 7) rfl rfl rfl (Rn.ic_gt (pc2 := 10) rfl rfl (fun q62 => (Rn.iconst (pc2 := 15) rfl rfl (Rn.zret rfl rfl (by decide) (Rf.sm (pc2 := 11) rfl (Rn.zret rfl rfl (by decide) (Rf.sm (pc2 := 6) rfl (Rn.iz_eq (pc2 := 9) rfl rfl (fun _ =>  (Rn.iconst (pc2 := 17) rfl rfl (Rn.goto rfl (Rn.putI (pc2 := 24) rfl rfl rfl rfl rfl (Rn.aload_n (pc2 := 25) rfl rfl rfl (Rn.getI (pc2 := 28) rfl rfl rfl rfl (Rn.iz_le (pc2 := 31) rfl rfl (fun _ =>  (Rn.iconst (pc2 := 32) rfl rfl (Rn.iret rfl rfl ((h.2 q61).1 q62)))) (fun q => absurd (show ((0 : Int) < 1) by decide) q)))))))) (fun q => absurd (show ((0 : Int) = 0) by decide) q)))))))) (fun q62 => (Rn.iconst (pc2 := 11) rfl rfl (Rn.goto rfl (Rn.zret rfl rfl (by decide) (Rf.sm (pc2 := 11) rfl (Rn.zret rfl rfl (by decide) (Rf.sm (pc2 := 6) rfl (Rn.iz_eq (pc2 := 9) rfl rfl (fun q => absurd q (show (¬ ((1 : Int) = 0)) by decide)) (fun _ =>  (Rn.iload_n (pc2 := 10) rfl rfl rfl (Rn.ista (as := [vi x]) (r := [vr 27 0]) (ls2 := [some (vi x)]) rfl rfl rfl rfl rfl rfl rfl (Rn.iload_n (pc2 := 1) rfl rfl rfl (Rn.iconst (pc2 := 2) rfl rfl (Rn.bipush (pc2 := 4) rfl rfl (Rn.ista (as := [vi x, vi 0, vi 29]) (r := []) (ls2 := [some (vi x), some (vi 0), some (vi 29)]) rfl rfl rfl rfl rfl rfl rfl (Rn.iload_n (pc2 := 1) rfl rfl rfl (Rn.iload_n (pc2 := 2) rfl rfl rfl (Rn.ic_lt (pc2 := 5) rfl rfl (fun q63 => (Rn.iconst (pc2 := 15) rfl rfl (Rn.zret rfl rfl (by decide) (Rf.sm (pc2 := 7) rfl (Rn.zret rfl rfl (by decide) (Rf.sm (pc2 := 13) rfl (Rn.iz_ne (pc2 := 16) rfl rfl (fun _ =>  (Rn.iconst (pc2 := 17) rfl rfl (Rn.goto rfl (Rn.putI (pc2 := 24) rfl rfl rfl rfl rfl (Rn.aload_n (pc2 := 25) rfl rfl rfl (Rn.getI (pc2 := 28) rfl rfl rfl rfl (Rn.iz_le (pc2 := 31) rfl rfl (fun _ =>  (Rn.iconst (pc2 := 32) rfl rfl (Rn.iret rfl rfl (((h.2 q61).2 q62).1 q63)))) (fun q => absurd (show ((0 : Int) < 1) by decide) q)))))))) (fun q => absurd (show ((0 : Int) = 0) by decide) q)))))))) (fun q63 => (Rn.iload_n (pc2 := 6) rfl rfl rfl (Rn.iload_n (pc2 := 7) rfl rfl rfl (Rn.ic_gt (pc2 := 10) rfl rfl (fun q64 => (Rn.iconst (pc2 := 15) rfl rfl (Rn.zret rfl rfl (by decide) (Rf.sm (pc2 := 7) rfl (Rn.zret rfl rfl (by decide) (Rf.sm (pc2 := 13) rfl (Rn.iz_ne (pc2 := 16) rfl rfl (fun _ =>  (Rn.iconst (pc2 := 17) rfl rfl (Rn.goto rfl (Rn.putI (pc2 := 24) rfl rfl rfl rfl rfl (Rn.aload_n (pc2 := 25) rfl rfl rfl (Rn.getI (pc2 := 28) rfl rfl rfl rfl (Rn.iz_le (pc2 := 31) rfl rfl (fun _ =>  (Rn.iconst (pc2 := 32) rfl rfl (Rn.iret rfl rfl ((((h.2 q61).2 q62).2 q63).1 q64)))) (fun q => absurd (show ((0 : Int) < 1) by decide) q)))))))) (fun q => absurd (show ((0 : Int) = 0) by decide) q)))))))) (fun q64 => (Rn.iconst (pc2 := 11) rfl rfl (Rn.goto rfl (Rn.zret rfl rfl (by decide) (Rf.sm (pc2 := 7) rfl (Rn.zret rfl rfl (by decide) (Rf.sm (pc2 := 13) rfl (Rn.iz_ne (pc2 := 16) rfl rfl (fun q => absurd q (show (¬ ((1 : Int) = 0)) by decide)) (fun _ =>  (Rn.iconst (pc2 := 21) rfl rfl (Rn.putI (pc2 := 24) rfl rfl rfl rfl rfl (Rn.aload_n (pc2 := 25) rfl rfl rfl (Rn.getI (pc2 := 28) rfl rfl rfl rfl (Rn.iz_le (pc2 := 31) rfl rfl (fun q => absurd q (show (¬ ((0 : Int) < 0)) by decide)) (fun _ =>  (Rn.aload_n (pc2 := 34) rfl rfl rfl (Rn.iload_n (pc2 := 35) rfl rfl rfl (Rn.ivir (as := [vi s]) (r := []) (ls2 := [some (vr 27 0), some (vi s), none, none]) (f := 27) (i := 0) rfl rfl rfl rfl rfl rfl rfl ((((h.2 q61).2 q62).2 q63).2 q64)))))))))))))))))))))))))))))))))))))))))))))))))))))))))))

theorem k44_38 {fs : List fr} {I : IT} {cc : Nat → Option Nat} {n c z : Nat} {out : oP} {s : Int} {x : Int} {x3 : Option av} {x4 : Option av} {v : Int} (h : ((v = (-1)) → ((((-1) = x) → (Rf (Sum.inl (some (vi 0))) fs (up3 I 27 0 41 2) (Cs cc) n c z out)) ∧ (¬ ((-1) = x) → ((((I 27 0 9) = 100) → (Rf (Sum.inl (some (vi 0))) fs (up3 I 27 0 41 2) (Cs cc) n c z out)) ∧ (¬ ((I 27 0 9) = 100) → ((0 ≤ (I 27 0 9) ∧ (I 27 0 9) < 100) ∧ (Rf (Sum.inl (some (vi (-1)))) fs (up3 (up3 (up3 (up3 (up3 I 27 0 41 0) 33 0 (Int.toNat (I 27 0 9)) s) 34 0 (Int.toNat (I 27 0 9)) x) 35 0 (Int.toNat (I 27 0 9)) (-1)) 27 0 9 (wr ((I 27 0 9) + 1))) (Cs cc) n c z out))))))) ∧ (¬ (v = (-1)) → ((0 ≤ v ∧ v < 100) ∧ ((((I 34 0 (Int.toNat v)) = x) → (Rf (Sum.inl (some (vi 0))) fs (up3 I 27 0 41 2) (Cs cc) n c z out)) ∧ (¬ ((I 34 0 (Int.toNat v)) = x) → ((((I 27 0 9) = 100) → (Rf (Sum.inl (some (vi 0))) fs (up3 I 27 0 41 2) (Cs cc) n c z out)) ∧ (¬ ((I 27 0 9) = 100) → ((0 ≤ (I 27 0 9) ∧ (I 27 0 9) < 100) ∧ (Rf (Sum.inl (some (vi (I 34 0 (Int.toNat v))))) fs (up3 (up3 (up3 (up3 (up3 (up3 I 27 0 41 0) 35 0 (Int.toNat v) (I 27 0 0)) 33 0 (Int.toNat (I 27 0 9)) s) 34 0 (Int.toNat (I 27 0 9)) x) 35 0 (Int.toNat (I 27 0 9)) (-1)) 27 0 9 (wr ((I 27 0 9) + 1))) (Cs cc) n c z out))))))))) : Rn 44 38 [some (vr 27 0), some (vi s), some (vi x), x3, x4] [vi v] (fs) I (Cs cc) n c z out :=
  (Rn.istore_n (pc2 := 39) (ls2 := [some (vr 27 0), some (vi s), some (vi x), some (vi v), x4]) rfl rfl rfl (Rn.iload_n (pc2 := 40) rfl rfl rfl (Rn.iconst (pc2 := 41) rfl rfl (Rn.ic_ne (pc2 := 44) rfl rfl (fun q65 => (Rn.iconst (pc2 := 45) rfl rfl (Rn.goto rfl (Rn.istore (pc2 := 56) (ls2 := [some (vr 27 0), some (vi s), some (vi x), some (vi v), some (vi (-1))]) rfl rfl rfl (Rn.aload_n (pc2 := 57) rfl rfl rfl (Rn.iload (pc2 := 59) rfl rfl rfl (Rn.iload_n (pc2 := 60) rfl rfl rfl (Rn.ic_eq (pc2 := 63) rfl rfl (fun q66 => (Rn.iconst (pc2 := 73) rfl rfl (Rn.goto rfl (Rn.putI (pc2 := 80) rfl rfl rfl rfl rfl (Rn.aload_n (pc2 := 81) rfl rfl rfl (Rn.getI (pc2 := 84) rfl rfl rfl rfl (Rn.iz_le (pc2 := 87) rfl rfl (fun _ =>  (Rn.iconst (pc2 := 88) rfl rfl (Rn.iret rfl rfl ((h.1 q65).1 q66)))) (fun q => absurd (show ((0 : Int) < 2) by decide) q)))))))) (fun q66 => (Rn.aload_n (pc2 := 64) rfl rfl rfl (Rn.getI (pc2 := 67) rfl rfl rfl rfl (Rn.bipush (pc2 := 69) rfl rfl (Rn.ic_ne (pc2 := 72) rfl rfl (fun q67 => (Rn.iconst (pc2 := 73) rfl rfl (Rn.goto rfl (Rn.putI (pc2 := 80) rfl rfl rfl rfl rfl (Rn.aload_n (pc2 := 81) rfl rfl rfl (Rn.getI (pc2 := 84) rfl rfl rfl rfl (Rn.iz_le (pc2 := 87) rfl rfl (fun _ =>  (Rn.iconst (pc2 := 88) rfl rfl (Rn.iret rfl rfl (((h.1 q65).2 q66).1 q67)))) (fun q => absurd (show ((0 : Int) < 2) by decide) q)))))))) (fun q67 => (Rn.iconst (pc2 := 77) rfl rfl (Rn.putI (pc2 := 80) rfl rfl rfl rfl rfl (Rn.aload_n (pc2 := 81) rfl rfl rfl (Rn.getI (pc2 := 84) rfl rfl rfl rfl (Rn.iz_le (pc2 := 87) rfl rfl (fun q => absurd q (show (¬ ((0 : Int) < 0)) by decide)) (fun _ =>  (Rn.iload_n (pc2 := 90) rfl rfl rfl (Rn.iconst (pc2 := 91) rfl rfl (Rn.ic_eq (pc2 := 94) rfl rfl (fun _ => (Rn.aload_n (pc2 := 105) rfl rfl rfl (Rn.getR (pc2 := 108) (q := (some (33, 0))) rfl rfl rfl rfl rfl (Rn.aload_n (pc2 := 109) rfl rfl rfl (Rn.getI (pc2 := 112) rfl rfl rfl rfl (Rn.iload_n (pc2 := 113) rfl rfl rfl (Rn.iast (pc2 := 114) (L := 100) rfl rfl rfl (((h.1 q65).2 q66).2 q67).1 rfl (Rn.aload_n (pc2 := 115) rfl rfl rfl (Rn.getR (pc2 := 118) (q := (some (34, 0))) rfl rfl rfl rfl rfl (Rn.aload_n (pc2 := 119) rfl rfl rfl (Rn.getI (pc2 := 122) rfl rfl rfl rfl (Rn.iload_n (pc2 := 123) rfl rfl rfl (Rn.iast (pc2 := 124) (L := 100) rfl rfl rfl (((h.1 q65).2 q66).2 q67).1 rfl (Rn.aload_n (pc2 := 125) rfl rfl rfl (Rn.getR (pc2 := 128) (q := (some (35, 0))) rfl rfl rfl rfl rfl (Rn.aload_n (pc2 := 129) rfl rfl rfl (Rn.getI (pc2 := 132) rfl rfl rfl rfl (Rn.iconst (pc2 := 133) rfl rfl (Rn.iast (pc2 := 134) (L := 100) rfl rfl rfl (((h.1 q65).2 q66).2 q67).1 rfl (Rn.aload_n (pc2 := 135) rfl rfl rfl (Rn.dupR (pc2 := 136) rfl rfl (Rn.getI (pc2 := 139) rfl rfl rfl rfl (Rn.iconst (pc2 := 140) rfl rfl (Rn.iadd (pc2 := 141) rfl rfl (Rn.putI (pc2 := 144) rfl rfl rfl rfl rfl (Rn.iload (pc2 := 146) rfl rfl rfl (Rn.iret rfl rfl (((h.1 q65).2 q66).2 q67).2))))))))))))))))))))))))))) (fun q => absurd q65 q)))))))))))))))))))))))) (fun q65 => (Rn.aload_n (pc2 := 49) rfl rfl rfl (Rn.getR (pc2 := 52) (q := (some (34, 0))) rfl rfl rfl rfl rfl (Rn.iload_n (pc2 := 53) rfl rfl rfl (Rn.iald (pc2 := 54) (L := 100) rfl rfl rfl (h.2 q65).1 rfl (Rn.istore (pc2 := 56) (ls2 := [some (vr 27 0), some (vi s), some (vi x), some (vi v), some (vi (I 34 0 (Int.toNat v)))]) rfl rfl rfl (Rn.aload_n (pc2 := 57) rfl rfl rfl (Rn.iload (pc2 := 59) rfl rfl rfl (Rn.iload_n (pc2 := 60) rfl rfl rfl (Rn.ic_eq (pc2 := 63) rfl rfl (fun q68 => (Rn.iconst (pc2 := 73) rfl rfl (Rn.goto rfl (Rn.putI (pc2 := 80) rfl rfl rfl rfl rfl (Rn.aload_n (pc2 := 81) rfl rfl rfl (Rn.getI (pc2 := 84) rfl rfl rfl rfl (Rn.iz_le (pc2 := 87) rfl rfl (fun _ =>  (Rn.iconst (pc2 := 88) rfl rfl (Rn.iret rfl rfl ((h.2 q65).2.1 q68)))) (fun q => absurd (show ((0 : Int) < 2) by decide) q)))))))) (fun q68 => (Rn.aload_n (pc2 := 64) rfl rfl rfl (Rn.getI (pc2 := 67) rfl rfl rfl rfl (Rn.bipush (pc2 := 69) rfl rfl (Rn.ic_ne (pc2 := 72) rfl rfl (fun q69 => (Rn.iconst (pc2 := 73) rfl rfl (Rn.goto rfl (Rn.putI (pc2 := 80) rfl rfl rfl rfl rfl (Rn.aload_n (pc2 := 81) rfl rfl rfl (Rn.getI (pc2 := 84) rfl rfl rfl rfl (Rn.iz_le (pc2 := 87) rfl rfl (fun _ =>  (Rn.iconst (pc2 := 88) rfl rfl (Rn.iret rfl rfl (((h.2 q65).2.2 q68).1 q69)))) (fun q => absurd (show ((0 : Int) < 2) by decide) q)))))))) (fun q69 => (Rn.iconst (pc2 := 77) rfl rfl (Rn.putI (pc2 := 80) rfl rfl rfl rfl rfl (Rn.aload_n (pc2 := 81) rfl rfl rfl (Rn.getI (pc2 := 84) rfl rfl rfl rfl (Rn.iz_le (pc2 := 87) rfl rfl (fun q => absurd q (show (¬ ((0 : Int) < 0)) by decide)) (fun _ =>  (Rn.iload_n (pc2 := 90) rfl rfl rfl (Rn.iconst (pc2 := 91) rfl rfl (Rn.ic_eq (pc2 := 94) rfl rfl (fun q => absurd q q65) (fun _ => (Rn.aload_n (pc2 := 95) rfl rfl rfl (Rn.getR (pc2 := 98) (q := (some (35, 0))) rfl rfl rfl rfl rfl (Rn.iload_n (pc2 := 99) rfl rfl rfl (Rn.aload_n (pc2 := 100) rfl rfl rfl (Rn.getI (pc2 := 103) rfl rfl rfl rfl (Rn.iast (pc2 := 104) (L := 100) rfl rfl rfl (h.2 q65).1 rfl (Rn.aload_n (pc2 := 105) rfl rfl rfl (Rn.getR (pc2 := 108) (q := (some (33, 0))) rfl rfl rfl rfl rfl (Rn.aload_n (pc2 := 109) rfl rfl rfl (Rn.getI (pc2 := 112) rfl rfl rfl rfl (Rn.iload_n (pc2 := 113) rfl rfl rfl (Rn.iast (pc2 := 114) (L := 100) rfl rfl rfl (((h.2 q65).2.2 q68).2 q69).1 rfl (Rn.aload_n (pc2 := 115) rfl rfl rfl (Rn.getR (pc2 := 118) (q := (some (34, 0))) rfl rfl rfl rfl rfl (Rn.aload_n (pc2 := 119) rfl rfl rfl (Rn.getI (pc2 := 122) rfl rfl rfl rfl (Rn.iload_n (pc2 := 123) rfl rfl rfl (Rn.iast (pc2 := 124) (L := 100) rfl rfl rfl (((h.2 q65).2.2 q68).2 q69).1 rfl (Rn.aload_n (pc2 := 125) rfl rfl rfl (Rn.getR (pc2 := 128) (q := (some (35, 0))) rfl rfl rfl rfl rfl (Rn.aload_n (pc2 := 129) rfl rfl rfl (Rn.getI (pc2 := 132) rfl rfl rfl rfl (Rn.iconst (pc2 := 133) rfl rfl (Rn.iast (pc2 := 134) (L := 100) rfl rfl rfl (((h.2 q65).2.2 q68).2 q69).1 rfl (Rn.aload_n (pc2 := 135) rfl rfl rfl (Rn.dupR (pc2 := 136) rfl rfl (Rn.getI (pc2 := 139) rfl rfl rfl rfl (Rn.iconst (pc2 := 140) rfl rfl (Rn.iadd (pc2 := 141) rfl rfl (Rn.putI (pc2 := 144) rfl rfl rfl rfl rfl (Rn.iload (pc2 := 146) rfl rfl rfl (Rn.iret rfl rfl (((h.2 q65).2.2 q68).2 q69).2))))))))))))))))))))))))))))))))))))))))))))))))))))))))))))))

-- name
theorem li_lt {S S2 : IT} {s : Nat} : ∀ k, (∀ j, j < k → S2 33 0 j = S 33 0 j) → li S2 s k = li S s k := by
  intro k
  induction k with
  | zero => intro _; rfl
  | succ k ih => intro h; unfold li; rw [ih (fun j hj => h j (by omega)), h k (by omega)]
theorem li_ok {S : IT} {s : Nat} : ∀ k, ¬ li S s k = -1 → S 33 0 (li S s k).toNat = (s : Int) ∧ (li S s k).toNat < k := by
  intro k
  induction k with
  | zero => intro h; exact absurd rfl h
  | succ k ih =>
    intro h
    unfold li at h ⊢
    by_cases g : S 33 0 k = (s : Int)
    · rw [if_pos g]; rw [Int.toNat_natCast]; exact ⟨g, by omega⟩
    · rw [if_neg g] at h ⊢
      have := ih h
      exact ⟨this.1, by omega⟩
theorem bn_lt {S S2 : IT} {s k : Nat} (h : ∀ j, j < k → S2 33 0 j = S 33 0 j ∧ S2 34 0 j = S 34 0 j) : bn S2 s k = bn S s k := by
  unfold bn
  rw [li_lt k (fun j hj => (h j hj).1)]
  by_cases g : li S s k = -1
  · rw [if_pos g, if_pos g]
  · rw [if_neg g, if_neg g]; exact (h _ (li_ok k g).2).2
theorem cz_lt {S S2 : IT} {s : Nat} {x : Int} : ∀ k, (∀ j, j < k → S2 33 0 j = S 33 0 j ∧ S2 34 0 j = S 34 0 j ∧ (S 33 0 j = (s : Int) → S 34 0 j = x → S2 35 0 j = S 35 0 j)) → cz S2 s x k = cz S s x k := by
  intro k
  induction k with
  | zero => intro _; rfl
  | succ k ih =>
    intro h
    obtain ⟨h1, h2, h3⟩ := h k (by omega)
    unfold cz
    rw [ih (fun j hj => h j (by omega)), h1, h2]
    by_cases g : S 33 0 k = (s : Int) ∧ S 34 0 k = x
    · rw [h3 g.1 g.2]
    · rw [if_neg (fun y => g ⟨y.1, y.2.1⟩), if_neg (fun y => g ⟨y.1, y.2.1⟩)]
theorem rz_lt {I I2 S S2 : IT} {s : Nat} {x : Int} : ∀ k, (∀ j, j < k → S2 33 0 j = S 33 0 j ∧ S2 34 0 j = S 34 0 j ∧ I2 9 0 j = I 9 0 j) → rz I2 S2 s x k = rz I S s x k := by
  intro k
  induction k with
  | zero => intro _; rfl
  | succ k ih =>
    intro h
    obtain ⟨h1, h2, h3⟩ := h k (by omega)
    unfold rz
    rw [ih (fun j hj => h j (by omega)), h1, h3, bn_lt (fun j hj => ⟨(h j (by omega)).1, (h j (by omega)).2.1⟩)]
def nmT (S : IT) (s x : Int) : Int := if 0 ≤ s ∧ s < S 27 0 4 ∧ 0 ≤ x ∧ x < 30 then (if bn S s.toNat (nn S) = x ∨ S 27 0 9 = 100 then 2 else 0) else 1
def nm0 (S : IT) (s : Int) : IT := if li S s.toNat (nn S) = -1 then up3 S 27 0 41 0 else up3 (up3 S 27 0 41 0) 35 0 (li S s.toNat (nn S)).toNat (S 27 0 0)
def nmZ (S : IT) (s x : Int) : IT := up3 (up3 (up3 (up3 (nm0 S s) 33 0 (nn S) s) 34 0 (nn S) x) 35 0 (nn S) (-1)) 27 0 9 (S 27 0 9 + 1)
theorem nm0_no {S : IT} {s : Int} {f i j : Nat} (h : ¬ (f = 27 ∧ i = 0 ∧ j = 41)) (h1 : ¬ f = 35) : nm0 S s f i j = S f i j := by
  unfold nm0
  split
  · exact up3_no h
  · rw [up3_nf h1]; exact up3_no h
theorem nmZ_no {S : IT} {s x : Int} {f i j : Nat} (h : ¬ (f = 27 ∧ i = 0 ∧ (j = 9 ∨ j = 41))) (h1 : ¬ (33 ≤ f ∧ f ≤ 35)) : nmZ S s x f i j = S f i j := by
  unfold nmZ
  rw [up3_no (by omega), up3_nf (by omega), up3_nf (by omega), up3_nf (by omega), nm0_no (by omega) (by omega)]
theorem nm33 {S : IT} {s x : Int} {j : Nat} : nmZ S s x 33 0 j = if j = nn S then s else S 33 0 j := by
  unfold nmZ
  rw [up3_nf (by omega), up3_nf (by omega), up3_nf (by omega), up3_at, nm0_no (by omega) (by omega)]
theorem nm34 {S : IT} {s x : Int} {j : Nat} : nmZ S s x 34 0 j = if j = nn S then x else S 34 0 j := by
  unfold nmZ
  rw [up3_nf (by omega), up3_nf (by omega), up3_at, up3_nf (by omega), nm0_no (by omega) (by omega)]
theorem nm35 {S : IT} {s x : Int} {j : Nat} : nmZ S s x 35 0 j = if j = nn S then -1 else if ¬ li S s.toNat (nn S) = -1 ∧ j = (li S s.toNat (nn S)).toNat then S 27 0 0 else S 35 0 j := by
  unfold nmZ
  rw [up3_nf (by omega), up3_at, up3_nf (by omega), up3_nf (by omega)]
  by_cases q : j = nn S
  · rw [if_pos q, if_pos q]
  · rw [if_neg q, if_neg q]
    unfold nm0
    by_cases g : li S s.toNat (nn S) = -1
    · rw [if_pos g, up3_nf (by omega)]
      exact (if_neg (fun y => y.1 g)).symm
    · rw [if_neg g, up3_at, up3_nf (by omega)]
      by_cases e : j = (li S s.toNat (nn S)).toNat
      · rw [if_pos e]; exact (if_pos ⟨g, e⟩).symm
      · rw [if_neg e]; exact (if_neg (fun y => e y.2)).symm
theorem nm9 {S : IT} {s x : Int} : nmZ S s x 27 0 9 = S 27 0 9 + 1 := up3_eq
theorem nm41 {S : IT} {s x : Int} : nmZ S s x 27 0 41 = 0 := by
  unfold nmZ
  rw [up3_no (by omega), up3_nf (by omega), up3_nf (by omega), up3_nf (by omega)]
  unfold nm0
  split
  · exact up3_eq
  · rw [up3_nf (by omega)]; exact up3_eq
theorem nm_nn {S : IT} {s x : Int} (h : 0 ≤ S 27 0 9) : nn (nmZ S s x) = nn S + 1 := by
  show (nmZ S s x 27 0 9).toNat = (S 27 0 9).toNat + 1
  rw [nm9]; omega
theorem nm_if {S : IT} {s x : Int} (h : nmT S s x = 0) : (0 ≤ s ∧ s < S 27 0 4 ∧ 0 ≤ x ∧ x < 30) ∧ ¬ bn S s.toNat (nn S) = x ∧ ¬ S 27 0 9 = 100 := by
  unfold nmT at h
  by_cases g : 0 ≤ s ∧ s < S 27 0 4 ∧ 0 ≤ x ∧ x < 30
  · rw [if_pos g] at h
    by_cases g2 : bn S s.toNat (nn S) = x ∨ S 27 0 9 = 100
    · rw [if_pos g2] at h; omega
    · exact ⟨g, fun y => g2 (Or.inl y), fun y => g2 (Or.inr y)⟩
  · rw [if_neg g] at h; omega
theorem VN_nm {S : IT} (V : VN S (S 27 0 0)) (h0 : 0 ≤ S 27 0 0) {s x : Int} (hs : 0 ≤ s ∧ s < S 27 0 4 ∧ 0 ≤ x ∧ x < 30) (h9 : ¬ S 27 0 9 = 100) : VN (nmZ S s x) (S 27 0 0) := by
  obtain ⟨t1, t2, t3, t4, t5⟩ := V
  have hn : ((nn S : Nat) : Int) = S 27 0 9 := by show (((S 27 0 9).toNat : Nat) : Int) = _; omega
  have e4 : nmZ S s x 27 0 4 = S 27 0 4 := nmZ_no (by omega) (by omega)
  refine ⟨by rw [nm9]; omega, by rw [nm9]; omega, by rw [e4]; exact t3, by rw [e4]; exact t4, fun k hk => ?_⟩
  rw [nm9] at hk
  rw [nm33, nm34, nm35, e4]
  by_cases g : k = nn S
  · rw [if_pos g, if_pos g, if_pos g]; omega
  · have := t5 k (by omega)
    rw [if_neg g, if_neg g, if_neg g]
    by_cases g2 : ¬ li S s.toNat (nn S) = -1 ∧ k = (li S s.toNat (nn S)).toNat
    · rw [if_pos g2]; omega
    · rw [if_neg g2]; exact this
/-- the names of the streets behind a naming -/
theorem nm_bn {S : IT} (h9 : 0 ≤ S 27 0 9) {t : Nat} {x : Int} {s : Nat} : bn (nmZ S (t : Int) x) s (nn S + 1) = if s = t then x else bn S s (nn S) := by
  rw [bn_succ, nm33, nm34, if_pos rfl, if_pos rfl]
  by_cases g : s = t
  · rw [if_pos g, if_pos (by omega)]
  · rw [if_neg g, if_neg (by omega)]
    exact bn_lt (fun j hj => ⟨by rw [nm33, if_neg (by omega)], by rw [nm34, if_neg (by omega)]⟩)
theorem nm_cz {S : IT} (V : VN S (S 27 0 0)) (h0 : 0 ≤ S 27 0 0) {t : Nat} {x : Int} {s : Nat} {y : Int} (hy : 0 ≤ y) : cz (nmZ S (t : Int) x) s y (nn S + 1) = if s = t ∧ bn S t (nn S) = y then S 27 0 0 else cz S s y (nn S) := by
  have t5 := V.2.2.2.2
  have hn : ((nn S : Nat) : Int) = S 27 0 9 := by have := V.1; show (((S 27 0 9).toNat : Nat) : Int) = _; omega
  have hL : (t : Int).toNat = t := Int.toNat_natCast t
  have e1 : cz (nmZ S (t : Int) x) s y (nn S + 1) = cz (nmZ S (t : Int) x) s y (nn S) := if_neg (fun g => by
    have := cz_lb (S := nmZ S (t : Int) x) (s := s) (x := y) (nn S)
    have g3 := g.2.2
    rw [nm35, if_pos rfl] at g3
    omega)
  rw [e1]
  by_cases g : s = t ∧ bn S t (nn S) = y
  · rw [if_pos g]
    obtain ⟨rfl, g2⟩ := g
    have g3 : ¬ li S s (nn S) = -1 := fun q => by unfold bn at g2; rw [if_pos q] at g2; omega
    obtain ⟨l1, l2⟩ := li_ok (nn S) g3
    have l3 : S 34 0 (li S s (nn S)).toNat = y := by unfold bn at g2; rw [if_neg g3] at g2; exact g2
    have a : S 27 0 0 ≤ cz (nmZ S (s : Int) x) s y (nn S) := by
      have := cz_ub (S := nmZ S (s : Int) x) (s := s) (x := y) (nn S) (li S s (nn S)).toNat l2 (by rw [nm33, if_neg (by omega)]; exact l1) (by rw [nm34, if_neg (by omega)]; exact l3)
      rw [nm35, if_neg (by omega), hL, if_pos ⟨g3, rfl⟩] at this
      exact this
    have b : cz (nmZ S (s : Int) x) s y (nn S) ≤ S 27 0 0 := by
      rcases cz_at (S := nmZ S (s : Int) x) (s := s) (x := y) (nn S) with q | ⟨j, hj, q1, q2, q3⟩
      · omega
      · rw [q3, nm35, if_neg (by omega)]
        have := (t5 j (by omega)).2.2.2.2.2
        split <;> omega
    omega
  · rw [if_neg g]
    refine cz_lt (nn S) (fun j hj => ⟨by rw [nm33, if_neg (by omega)], by rw [nm34, if_neg (by omega)], fun q1 q2 => ?_⟩)
    rw [nm35, if_neg (by omega), hL]
    refine if_neg (fun q => g ?_)
    obtain ⟨q3, q4⟩ := q
    obtain ⟨l1, l2⟩ := li_ok (nn S) q3
    rw [← q4] at l1
    refine ⟨by omega, ?_⟩
    unfold bn
    rw [if_neg q3, ← q4]; exact q2
theorem DR_nm {I I2 S : IT} {p : Int} (D : DR I S p (S 27 0 0)) (h0 : 0 ≤ S 27 0 0) {t : Nat} {x : Int} (hs : 0 ≤ (t : Int) ∧ (t : Int) < S 27 0 4 ∧ 0 ≤ x ∧ x < 30) (h100 : ¬ S 27 0 9 = 100) (h3 : I2 3 0 0 = I 3 0 0) (h5 : I2 3 0 5 = S 27 0 9 + 1) (h7 : ∀ j, I2 7 0 j = if j = nn S then (t : Int) else I 7 0 j) (h8 : ∀ j, I2 8 0 j = if j = nn S then x else I 8 0 j) (h9 : ∀ j, I2 9 0 j = if j = nn S then S 27 0 0 else I 9 0 j) (h14 : ∀ s, s < 12 → I2 14 s 0 = if s = t then x else I 14 s 0) (h15 : ∀ s y : Nat, s < 12 → I2 15 s y = if s = t ∧ bn S t (nn S) = (y : Int) then S 27 0 0 else I 15 s y) (hI : ∀ f i j, f = 6 ∨ (10 ≤ f ∧ f ≤ 13) → I2 f i j = I f i j) : DR I2 (nmZ S (t : Int) x) p (S 27 0 0) := by
  obtain ⟨d1, d2, d3, d4, d5, d6, d7, d8, d9⟩ := D
  have t1 := d7.1
  have hn : ((nn S : Nat) : Int) = S 27 0 9 := by show (((S 27 0 9).toNat : Nat) : Int) = _; omega
  have eo : ∀ f i j, ¬ (f = 27 ∧ i = 0 ∧ (j = 9 ∨ j = 41)) → ¬ (33 ≤ f ∧ f ≤ 35) → nmZ S (t : Int) x f i j = S f i j := fun f i j q1 q2 => nmZ_no q1 q2
  refine ⟨by rw [h3, eo _ _ _ (by omega) (by omega)]; exact d1, by rw [nm9]; exact h5, fun s hs2 => ?_, fun y hy => ?_, fun s hs2 => ?_, VS_f d6 (fun f q1 q2 i j => eo _ _ _ (by omega) (by omega)), VN_nm d7 h0 hs h100, fun k hk => ?_, fun s hs2 y hy => ?_⟩
  · obtain ⟨b1, b2⟩ := d3 s hs2
    rw [show 12 * 0 + s = s by omega] at b1 b2 ⊢
    rw [nm_nn t1, nm_bn t1, h14 s hs2]
    refine ⟨by rw [b1], fun y hy => ?_⟩
    rw [nm_cz d7 h0 (by omega), h15 s y hs2, b2 y hy]
  · rw [hI 6 0 y (by omega), eo 36 0 y (by omega) (by omega)]; exact d4 y hy
  · obtain ⟨b1, b2⟩ := d5 s hs2
    rw [hI 10 s 0 (by omega), eo 29 0 s (by omega) (by omega)]
    refine ⟨b1, fun j hj => ?_⟩
    rw [hI 11 s j (by omega), hI 12 s j (by omega), hI 13 s j (by omega), eo 30 0 _ (by omega) (by omega), eo 31 0 _ (by omega) (by omega), eo 32 0 _ (by omega) (by omega)]
    exact b2 j hj
  · rw [nm9] at hk
    rw [h7, h8, nm33, nm34]
    by_cases g : k = nn S
    · rw [if_pos g, if_pos g, if_pos g, if_pos g]; exact ⟨rfl, rfl⟩
    · rw [if_neg g, if_neg g, if_neg g, if_neg g]; exact d8 k (by omega)
  · rw [nm_nn t1, nm_cz d7 h0 (by omega)]
    show (if _ then _ else _) = _
    have e1 : rz I2 (nmZ S (t : Int) x) s (y : Int) (nn S) = rz I S s (y : Int) (nn S) := rz_lt (nn S) (fun j hj => ⟨by rw [nm33, if_neg (by omega)], by rw [nm34, if_neg (by omega)], by rw [h9, if_neg (by omega)]⟩)
    have e2 : bn (nmZ S (t : Int) x) s (nn S) = bn S s (nn S) := bn_lt (fun j hj => ⟨by rw [nm33, if_neg (by omega)], by rw [nm34, if_neg (by omega)]⟩)
    rw [e1, e2, nm33, if_pos rfl, h9, if_pos rfl, d9 s hs2 y hy]
    by_cases g : s = t ∧ bn S t (nn S) = (y : Int)
    · rw [if_pos g, if_pos ⟨by omega, by rw [g.1]; exact g.2⟩]
    · rw [if_neg g, if_neg (fun q => g ⟨by omega, by rw [← show s = t by omega]; exact q.2⟩)]
theorem VI_nm {S : IT} (V : VI S) {s x : Int} (h : nmT S s x = 0) : VI (nmZ S s x) := by
  obtain ⟨h1, h2, h3⟩ := nm_if h
  have eo : ∀ f i j, ¬ (f = 27 ∧ i = 0 ∧ (j = 9 ∨ j = 41)) → ¬ (33 ≤ f ∧ f ≤ 35) → nmZ S s x f i j = S f i j := fun f i j q1 q2 => nmZ_no q1 q2
  obtain ⟨⟨v1, v2, v3, v4, v5⟩, ⟨a1, a2, a3, a4, a5⟩, w, t9⟩ := V
  refine ⟨⟨VC_ag v1 (fun f i j q => eo _ _ _ (by omega) (by omega)) (eo _ _ _ (by omega) (by omega)) (eo _ _ _ (by omega) (by omega)) (eo _ _ _ (by omega) (by omega)), VD_ag v2 (fun f i j q1 q2 => eo _ _ _ (by omega) (by omega)) (eo _ _ _ (by omega) (by omega)) (eo _ _ _ (by omega) (by omega)) (eo _ _ _ (by omega) (by omega)), V0_ag v3 (fun i j => eo _ _ _ (by omega) (by omega)), V1_ag v4 (fun i j => eo _ _ _ (by omega) (by omega)), by rw [eo _ _ _ (by omega) (by omega)]; exact v5⟩, ⟨?_, by rw [eo _ _ _ (by omega) (by omega)]; exact a2, by rw [eo _ _ _ (by omega) (by omega)]; exact a3, by rw [eo _ _ _ (by omega) (by omega)]; exact a4, fun a b ha hb hh => ?_⟩, ?_, ?_⟩
  · rw [show dS (nmZ S s x) = dS S from by funext a b; exact eo 28 0 _ (by omega) (by omega)]; exact a1
  · rw [eo _ _ _ (by omega) (by omega)] at hh
    rw [eo 28 0 _ (by omega) (by omega)]; exact a5 a b ha hb hh
  · rw [eo 27 0 1 (by omega) (by omega)]; exact VS_f w (fun f q1 q2 i j => eo _ _ _ (by omega) (by omega))
  · rw [eo 27 0 0 (by omega) (by omega)]; exact VN_nm t9 v5 h1 h3
theorem ok_name (s x : Int) : OKm (fun S => OP (nmT S s x) (nmZ S s x) S) (fun S => OV (nmT S s x) (bn S s.toNat (nn S))) := by
  have en : ∀ S S2, agM S S2 → nn S2 = nn S := fun S S2 h => nn_ag h.D
  have eb : ∀ S S2, agM S S2 → bn S2 s.toNat (nn S2) = bn S s.toNat (nn S) := fun S S2 h => by rw [en S S2 h, bn_ag h.D]
  have el : ∀ S S2, agM S S2 → li S2 s.toNat (nn S2) = li S s.toNat (nn S) := fun S S2 h => by rw [en S S2 h, li_ag h.D]
  have e : ∀ S S2, agM S S2 → nmT S2 s x = nmT S s x := fun S S2 h => by unfold nmT; rw [h 27 0 4 (by omega) (by omega), h 27 0 9 (by omega) (by omega), eb S S2 h]
  refine ⟨fun S S2 h => ⟨OP_M (e S S2 h) h (fun _ => ?_), OV_M (e S S2 h) (fun _ => eb S S2 h)⟩, fun S V => OP_VI V (fun g => VI_nm V g), fun S => OP_fx (up3_fx (by omega) (up3_fx (by omega) (up3_fx (by omega) (up3_fx (by omega) (fun f i j q => nm0_no (by omega) (by omega))))))⟩
  have h0 : agM (nm0 S s) (nm0 S2 s) := by
    unfold nm0
    rw [el S S2 h, h 27 0 0 (by omega) (by omega)]
    by_cases g : li S s.toNat (nn S) = -1
    · rw [if_pos g, if_pos g]; exact h.up rfl
    · rw [if_neg g, if_neg g]; exact (h.up rfl).up rfl
  unfold nmZ
  rw [h 27 0 9 (by omega) (by omega), en S S2 h]
  exact (((h0.up rfl).up rfl).up rfl).up rfl
theorem mo_name {fs : List fr} {I : IT} {cc : Nat → Option Nat} {n c z : Nat} {out : oP} (V : VI I) {s x : Int} (h : Rf (Sum.inl (some (vi (OV (nmT I s x) (bn I s.toNat (nn I)))))) fs (OP (nmT I s x) (nmZ I s x) I) (Cs cc) n c z out) : Rn 44 0 [some (vr 27 0), some (vi s), some (vi x), none, none] [] fs I (Cs cc) n c z out := by
  have N := VI_num V
  obtain ⟨e1, e0⟩ := MOo h
  have W := V.2.2.2
  have q : 0 ≤ s ∧ s < I 27 0 4 ∧ 0 ≤ x ∧ x < 30 → Rn 43 0 [some (vr 27 0), some (vi s), none, none] [] ((44, 35, [some (vr 27 0), some (vi s), some (vi x), none, none], []) :: fs) (up3 I 27 0 41 0) (Cs cc) n c z out := fun g => by
    obtain ⟨t, rfl⟩ : ∃ k : Nat, s = (k : Int) := ⟨s.toNat, by omega⟩
    have eT : nmT I (t : Int) x = if bn I t (nn I) = x ∨ I 27 0 9 = 100 then 2 else 0 := by
      unfold nmT
      rw [if_pos g, Int.toNat_natCast]
    have el : li (up3 I 27 0 41 0) t (nn (up3 I 27 0 41 0)) = li I t (nn I) := by rw [nn_ag (agN_thr (S := I)).D, li_ag (agN_thr (S := I)).D]
    have hli := li_in (S := I) (s := t) (nn I)
    have hnn : ((nn I : Nat) : Int) = I 27 0 9 := by show (((I 27 0 9).toNat : Nat) : Int) = _; omega
    refine m_naming (VN_ag agN_thr.D W) t (Rf.sm (pc2 := 38) rfl (k44_38 ?_))
    rw [el, up3_up3]
    simp only [show ∀ j, ¬ j = 41 → up3 I 27 0 41 0 27 0 j = I 27 0 j from fun j hj => up3_no (by omega), show ∀ j, up3 I 27 0 41 0 34 0 j = I 34 0 j from fun j => up3_nf (by omega)]
    rw [show up3 I 27 0 41 0 27 0 9 = I 27 0 9 from up3_no (by omega), show up3 I 27 0 41 0 27 0 0 = I 27 0 0 from up3_no (by omega), wrI (x := I 27 0 9 + 1) (by omega) (by omega), up3_up3]
    have bad : bn I t (nn I) = x ∨ I 27 0 9 = 100 → Rf (Sum.inl (some (vi 0))) fs (up3 I 27 0 41 2) (Cs cc) n c z out := fun y => e1 2 (by omega) (by rw [eT, if_pos y])
    refine ⟨fun g1 => ?_, fun g1 => ⟨by omega, ?_⟩⟩
    · have eb : bn I t (nn I) = -1 := if_pos g1
      refine ⟨fun g2 => bad (Or.inl (by omega)), fun g2 => ⟨fun g3 => bad (Or.inr g3), fun g3 => ⟨by omega, ?_⟩⟩⟩
      have y := e0 (by rw [eT, if_neg (by omega)])
      rw [Int.toNat_natCast, eb] at y
      unfold nmZ nm0 at y
      rw [Int.toNat_natCast, if_pos g1] at y
      exact y
    · have eb : bn I t (nn I) = I 34 0 (li I t (nn I)).toNat := if_neg g1
      refine ⟨fun g2 => bad (Or.inl (by omega)), fun g2 => ⟨fun g3 => bad (Or.inr g3), fun g3 => ⟨by omega, ?_⟩⟩⟩
      have y := e0 (by rw [eT, if_neg (by omega)])
      rw [Int.toNat_natCast, eb] at y
      unfold nmZ nm0 at y
      rw [Int.toNat_natCast, if_neg g1] at y
      exact y
  refine k44_0 ?_
  rw [wrI (x := I 27 0 4 - 1) (by omega) (by omega)]
  repeat' (first | apply And.intro | intro _)
  all_goals first | exact q (by omega) | exact e1 1 (by omega) (by unfold nmT; rw [if_neg (by omega)]) | omega
theorem cl_name {fs : List fr} {I : IT} {cc : Nat → Option Nat} {n c z : Nat} {out : oP} (F : FI I cc) {s x : Int} (h : CR I (OP (nmT I s x) (nmZ I s x) I) (OV (nmT I s x) (bn I s.toNat (nn I))) fs I n c z out) : Rn 141 0 [some (vr 0 0), some (vi s), some (vi x), some (vr 59 0), none] [] fs I (Cs cc) n c z out := by
  have N := VI_num F.2
  obtain ⟨e1, e0⟩ := CRo F h
  obtain ⟨m1, m2, m3, m4, m5⟩ := F.1
  have M3 := m3
  have v5 := F.2.1.2.2.2.2
  obtain ⟨d1, d2, d3, d4, d5, d6, d7, d8⟩ := m3
  have b1 : ¬ (0 ≤ s ∧ s < I 27 0 4 ∧ 0 ≤ x ∧ x < 30) → Rf (Sum.inl (some (vi 1))) fs I (Cs cc) n (c + 1) (z + 6) out := fun g => e1 1 (by omega) (by unfold nmT; rw [if_neg g])
  refine k141_0 ?_
  by_cases ht : 0 ≤ s ∧ s < I 27 0 4 ∧ 0 ≤ x ∧ x < 30
  · obtain ⟨t, rfl⟩ : ∃ k : Nat, s = (k : Int) := ⟨s.toNat, by omega⟩
    have eT : nmT I (t : Int) x = if bn I t (nn I) = x ∨ I 27 0 9 = 100 then 2 else 0 := by
      unfold nmT
      rw [if_pos ht, Int.toNat_natCast]
    have hb := bn_in d7 t (nn I) (Nat.le_refl _)
    have b14 := (d3 t (by omega)).1
    have hnn : nn I = (I 27 0 9).toNat := rfl
    rw [Int.toNat_natCast, b14, d1, d2, m1, wrI (x := I 27 0 9 + 1) (by omega) (by omega), ← hnn, show 12 * 0 + t = t by omega]
    have bad : bn I t (nn I) = x ∨ I 27 0 9 = 100 → Rf (Sum.inl (some (vi 2))) fs I (Cs cc) n (c + 1) (z + 6) out := fun y => e1 2 (by omega) (by rw [eT, if_pos y])
    have eo : ∀ f i j, ¬ (f = 27 ∧ i = 0 ∧ (j = 9 ∨ j = 41)) → ¬ (33 ≤ f ∧ f ≤ 35) → nmZ I (t : Int) x f i j = I f i j := fun f i j q1 q2 => nmZ_no q1 q2
    have go : ∀ I2, nmT I (t : Int) x = 0 → (∀ f i j, ¬ f = 59 → ¬ (f = 3 ∧ i = 0 ∧ j = 5) → ¬ (7 ≤ f ∧ f ≤ 9) → ¬ f = 14 → ¬ f = 15 → I2 f i j = I f i j) → I2 59 0 0 = bn I t (nn I) → I2 3 0 5 = I 27 0 9 + 1 → (∀ j, I2 7 0 j = if j = nn I then (t : Int) else I 7 0 j) → (∀ j, I2 8 0 j = if j = nn I then x else I 8 0 j) → (∀ j, I2 9 0 j = if j = nn I then I 27 0 0 else I 9 0 j) → (∀ s, s < 12 → I2 14 s 0 = if s = t then x else I 14 s 0) → (∀ s y : Nat, s < 12 → I2 15 s y = if s = t ∧ bn I t (nn I) = (y : Int) then I 27 0 0 else I 15 s y) → Rf (Sum.inl (some (vi 0))) fs I2 (Cs cc) n c z out := fun I2 g eI g59 g5 g7 g8 g9 g14 g15 => by
      obtain ⟨h1, h2, h3⟩ := nm_if g
      refine e0 g I2 cc 0 c z (by omega) (by omega) (fun f i j q1 q2 => eI f i j q2 (by omega) (by omega) (by omega) (by omega)) nm41.symm (fun _ => by rw [g59, Int.toNat_natCast]) ⟨?_, ?_, ?_, ?_, ?_⟩
      · rw [eI 0 0 4 (by omega) (by omega) (by omega) (by omega) (by omega), eo 27 0 0 (by omega) (by omega)]; exact m1
      · exact RA_agS (RA_ag m2 (fun i j => eI _ _ _ (by omega) (by omega) (by omega) (by omega) (by omega)) (fun i j => eI _ _ _ (by omega) (by omega) (by omega) (by omega) (by omega))) (eo _ _ _ (by omega) (by omega)) (eo _ _ _ (by omega) (by omega)) (fun i j => eo _ _ _ (by omega) (by omega))
      · rw [eo 27 0 0 (by omega) (by omega), eo 27 0 1 (by omega) (by omega)]
        exact DR_nm M3 v5 h1 h3 (eI _ _ _ (by omega) (by omega) (by omega) (by omega) (by omega)) g5 g7 g8 g9 g14 g15 (fun f i j q => eI _ _ _ (by omega) (by omega) (by omega) (by omega) (by omega))
      · exact RC_ag m4 (fun f i j q => eI _ _ _ (by omega) (by omega) (by omega) (by omega) (by omega)) (fun f i j _ _ => eo _ _ _ (by omega) (by omega)) (eo _ _ _ (by omega) (by omega)) (eo _ _ _ (by omega) (by omega))
      · exact RD_agS (RD_agI m5 (fun f i j q => eI _ _ _ (by omega) (by omega) (by omega) (by omega) (by omega))) (eo _ _ _ (by omega) (by omega)) (eo _ _ _ (by omega) (by omega)) (fun f i j _ _ => eo _ _ _ (by omega) (by omega))
    refine ⟨fun _ => by omega, fun _ => ⟨fun _ => ⟨fun _ => by omega, fun _ => ⟨fun _ => ⟨by omega, fun g1 => bad (Or.inl g1), fun g1 => ⟨fun g2 => ⟨by omega, fun g3 => ?_, fun g3 => ⟨fun g4 => ⟨by omega, ?_⟩, fun g4 => by omega⟩⟩, fun g2 => bad (Or.inr (by omega))⟩⟩, fun _ => by omega⟩⟩, fun _ => by omega⟩⟩
    · refine go _ (by rw [eT, if_neg (by omega)]) (fun f i j q1 q2 q3 q4 q5 => ?_) up3_eq ?_ (fun j => ?_) (fun j => ?_) (fun j => ?_) (fun s hs => ?_) (fun s y hs => ?_)
      · rw [up3_nf q1, up3_nf q4, up3_no q2, up3_nf (by omega), up3_nf (by omega), up3_nf (by omega)]
      · rw [up3_nf (by omega), up3_nf (by omega), up3_eq]
      · rw [up3_nf (by omega), up3_nf (by omega), up3_nf (by omega), up3_nf (by omega), up3_nf (by omega), up3_at]
      · rw [up3_nf (by omega), up3_nf (by omega), up3_nf (by omega), up3_nf (by omega), up3_at, up3_nf (by omega)]
      · rw [up3_nf (by omega), up3_nf (by omega), up3_nf (by omega), up3_at, up3_nf (by omega), up3_nf (by omega)]
      · rw [up3_nf (by omega), up3_ati, up3_nf (by omega), up3_nf (by omega), up3_nf (by omega), up3_nf (by omega)]
        by_cases y : s = t
        · rw [if_pos y, if_pos ⟨y, rfl⟩]
        · rw [if_neg y, if_neg (fun w => y w.1)]
      · rw [up3_nf (by omega), up3_nf (by omega), up3_nf (by omega), up3_nf (by omega), up3_nf (by omega), up3_nf (by omega), if_neg (by omega)]
    · refine go _ (by rw [eT, if_neg (by omega)]) (fun f i j q1 q2 q3 q4 q5 => ?_) up3_eq ?_ (fun j => ?_) (fun j => ?_) (fun j => ?_) (fun s hs => ?_) (fun s y hs => ?_)
      · rw [up3_nf q1, up3_nf q4, up3_nf q5, up3_no q2, up3_nf (by omega), up3_nf (by omega), up3_nf (by omega)]
      · rw [up3_nf (by omega), up3_nf (by omega), up3_nf (by omega), up3_eq]
      · rw [up3_nf (by omega), up3_nf (by omega), up3_nf (by omega), up3_nf (by omega), up3_nf (by omega), up3_nf (by omega), up3_at]
      · rw [up3_nf (by omega), up3_nf (by omega), up3_nf (by omega), up3_nf (by omega), up3_nf (by omega), up3_at, up3_nf (by omega)]
      · rw [up3_nf (by omega), up3_nf (by omega), up3_nf (by omega), up3_nf (by omega), up3_at, up3_nf (by omega), up3_nf (by omega)]
      · rw [up3_nf (by omega), up3_ati, up3_nf (by omega), up3_nf (by omega), up3_nf (by omega), up3_nf (by omega), up3_nf (by omega)]
        by_cases y : s = t
        · rw [if_pos y, if_pos ⟨y, rfl⟩]
        · rw [if_neg y, if_neg (fun w => y w.1)]
      · rw [up3_nf (by omega), up3_nf (by omega), up3_ati, up3_nf (by omega), up3_nf (by omega), up3_nf (by omega), up3_nf (by omega)]
        by_cases y2 : s = t ∧ bn I t (nn I) = (y : Int)
        · rw [if_pos y2, if_pos ⟨y2.1, by omega⟩]
        · rw [if_neg y2, if_neg (fun w => y2 ⟨w.1, by omega⟩)]
  · repeat' (first | apply And.intro | intro _)
    all_goals first | exact b1 (by omega) | omega


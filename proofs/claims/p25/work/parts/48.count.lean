theorem k71_0 {fs : List fr} {I : IT} {cc : Nat → Option Nat} {n c z : Nat} {out : oP} {a : Int} (h : ((a < 0) → (Rn 71 20 [some (vr 27 0), some (vi a), none, none, none, none, none] [vr 27 0] (fs) (up3 I 27 0 41 1) (Cs cc) n c z out)) ∧ (¬ (a < 0) → (((8 < a) → (Rn 71 20 [some (vr 27 0), some (vi a), none, none, none, none, none] [vr 27 0] (fs) (up3 I 27 0 41 1) (Cs cc) n c z out)) ∧ (¬ (8 < a) → (Rn 71 20 [some (vr 27 0), some (vi a), none, none, none, none, none] [vr 27 0] (fs) (up3 I 27 0 41 0) (Cs cc) n c z out))))) : Rn 71 0 [some (vr 27 0), some (vi a), none, none, none, none, none] [] (fs) I (Cs cc) n c z out :=
  (Rn.aload_n (pc2 := 1) rfl rfl rfl (Rn.iload_n (pc2 := 2) rfl rfl rfl (Rn.iconst (pc2 := 3) rfl rfl (Rn.bipush (pc2 := 5) rfl rfl (Rn.ista (as := [vi a, vi 0, vi 8]) (r := [vr 27 0]) (ls2 := [some (vi a), some (vi 0), some (vi 8)]) rfl rfl rfl rfl rfl rfl rfl (Rn.iload_n (pc2 := 1) rfl rfl rfl (Rn.iload_n (pc2 := 2) rfl rfl rfl (Rn.ic_lt (pc2 := 5) rfl rfl (fun q53 => (Rn.iconst (pc2 := 15) rfl rfl (Rn.zret rfl rfl (by decide) (Rf.sm (pc2 := 8) rfl (Rn.iz_eq (pc2 := 11) rfl rfl (fun _ =>  (Rn.iconst (pc2 := 16) rfl rfl (Rn.putI (pc2 := 19) rfl rfl rfl rfl rfl (Rn.aload_n (pc2 := 20) rfl rfl rfl (h.1 q53))))) (fun q => absurd (show ((0 : Int) = 0) by decide) q)))))) (fun q53 => (Rn.iload_n (pc2 := 6) rfl rfl rfl (Rn.iload_n (pc2 := 7) rfl rfl rfl (Rn.ic_gt (pc2 := 10) rfl rfl (fun q54 => (Rn.iconst (pc2 := 15) rfl rfl (Rn.zret rfl rfl (by decide) (Rf.sm (pc2 := 8) rfl (Rn.iz_eq (pc2 := 11) rfl rfl (fun _ =>  (Rn.iconst (pc2 := 16) rfl rfl (Rn.putI (pc2 := 19) rfl rfl rfl rfl rfl (Rn.aload_n (pc2 := 20) rfl rfl rfl ((h.2 q53).1 q54))))) (fun q => absurd (show ((0 : Int) = 0) by decide) q)))))) (fun q54 => (Rn.iconst (pc2 := 11) rfl rfl (Rn.goto rfl (Rn.zret rfl rfl (by decide) (Rf.sm (pc2 := 8) rfl (Rn.iz_eq (pc2 := 11) rfl rfl (fun q => absurd q (show (¬ ((1 : Int) = 0)) by decide)) (fun _ =>  (Rn.iconst (pc2 := 12) rfl rfl (Rn.goto rfl (Rn.putI (pc2 := 19) rfl rfl rfl rfl rfl (Rn.aload_n (pc2 := 20) rfl rfl rfl ((h.2 q53).2 q54))))))))))))))))))))))))

theorem k71_20 {fs : List fr} {I : IT} {cc : Nat → Option Nat} {n c z : Nat} {out : oP} {a : Int} (h : ((0 < (I 27 0 41)) → (Rf (Sum.inl (some (vi 0))) fs I (Cs cc) n c z out)) ∧ (¬ (0 < (I 27 0 41)) → (Rn 71 32 [some (vr 27 0), some (vi a), some (vi 0), some (vi 0), none, none, none] [] (fs) I (Cs cc) n c z out))) : Rn 71 20 [some (vr 27 0), some (vi a), none, none, none, none, none] [vr 27 0] (fs) I (Cs cc) n c z out :=
  (Rn.getI (pc2 := 23) rfl rfl rfl rfl (Rn.iz_le (pc2 := 26) rfl rfl (fun q55 => (Rn.iconst (pc2 := 27) rfl rfl (Rn.iret rfl rfl (h.1 q55)))) (fun q55 => (Rn.iconst (pc2 := 29) rfl rfl (Rn.istore_n (pc2 := 30) (ls2 := [some (vr 27 0), some (vi a), some (vi 0), none, none, none, none]) rfl rfl rfl (Rn.iconst (pc2 := 31) rfl rfl (Rn.istore_n (pc2 := 32) (ls2 := [some (vr 27 0), some (vi a), some (vi 0), some (vi 0), none, none, none]) rfl rfl rfl (h.2 q55))))))))

theorem k71_32 {fs : List fr} {I : IT} {cc : Nat → Option Nat} {n c z : Nat} {out : oP} {a : Int} {w : Int} {k : Int} {x4 : Option av} {x5 : Option av} {x6 : Option av} (h : ((k < 40) → (((k < (I 27 0 18)) → (((a = 3) → ((0 ≤ k ∧ k < 40) ∧ ((((I 42 0 (Int.toNat k)) = 0) → (Rn 71 97 [some (vr 27 0), some (vi a), some (vi w), some (vi k), some (vi 1), x5, x6] [] (fs) I (Cs cc) n c z out)) ∧ (¬ ((I 42 0 (Int.toNat k)) = 0) → (((a = 4) → ((((I 42 0 (Int.toNat k)) = 3) → (Rn 71 97 [some (vr 27 0), some (vi a), some (vi w), some (vi k), some (vi 1), x5, x6] [] (fs) I (Cs cc) n c z out)) ∧ (¬ ((I 42 0 (Int.toNat k)) = 3) → (((a = 5) → ((((I 42 0 (Int.toNat k)) = 2) → (Rn 71 97 [some (vr 27 0), some (vi a), some (vi w), some (vi k), some (vi 1), x5, x6] [] (fs) I (Cs cc) n c z out)) ∧ (¬ ((I 42 0 (Int.toNat k)) = 2) → (Rn 71 97 [some (vr 27 0), some (vi a), some (vi w), some (vi k), some (vi 0), x5, x6] [] (fs) I (Cs cc) n c z out)))) ∧ (¬ (a = 5) → (Rn 71 97 [some (vr 27 0), some (vi a), some (vi w), some (vi k), some (vi 0), x5, x6] [] (fs) I (Cs cc) n c z out)))))) ∧ (¬ (a = 4) → (((a = 5) → ((((I 42 0 (Int.toNat k)) = 2) → (Rn 71 97 [some (vr 27 0), some (vi a), some (vi w), some (vi k), some (vi 1), x5, x6] [] (fs) I (Cs cc) n c z out)) ∧ (¬ ((I 42 0 (Int.toNat k)) = 2) → (Rn 71 97 [some (vr 27 0), some (vi a), some (vi w), some (vi k), some (vi 0), x5, x6] [] (fs) I (Cs cc) n c z out)))) ∧ (¬ (a = 5) → (Rn 71 97 [some (vr 27 0), some (vi a), some (vi w), some (vi k), some (vi 0), x5, x6] [] (fs) I (Cs cc) n c z out))))))))) ∧ (¬ (a = 3) → (((a = 4) → ((0 ≤ k ∧ k < 40) ∧ ((((I 42 0 (Int.toNat k)) = 3) → (Rn 71 97 [some (vr 27 0), some (vi a), some (vi w), some (vi k), some (vi 1), x5, x6] [] (fs) I (Cs cc) n c z out)) ∧ (¬ ((I 42 0 (Int.toNat k)) = 3) → (((a = 5) → ((((I 42 0 (Int.toNat k)) = 2) → (Rn 71 97 [some (vr 27 0), some (vi a), some (vi w), some (vi k), some (vi 1), x5, x6] [] (fs) I (Cs cc) n c z out)) ∧ (¬ ((I 42 0 (Int.toNat k)) = 2) → (Rn 71 97 [some (vr 27 0), some (vi a), some (vi w), some (vi k), some (vi 0), x5, x6] [] (fs) I (Cs cc) n c z out)))) ∧ (¬ (a = 5) → (Rn 71 97 [some (vr 27 0), some (vi a), some (vi w), some (vi k), some (vi 0), x5, x6] [] (fs) I (Cs cc) n c z out))))))) ∧ (¬ (a = 4) → (((a = 5) → ((0 ≤ k ∧ k < 40) ∧ ((((I 42 0 (Int.toNat k)) = 2) → (Rn 71 97 [some (vr 27 0), some (vi a), some (vi w), some (vi k), some (vi 1), x5, x6] [] (fs) I (Cs cc) n c z out)) ∧ (¬ ((I 42 0 (Int.toNat k)) = 2) → (Rn 71 97 [some (vr 27 0), some (vi a), some (vi w), some (vi k), some (vi 0), x5, x6] [] (fs) I (Cs cc) n c z out))))) ∧ (¬ (a = 5) → (Rn 71 97 [some (vr 27 0), some (vi a), some (vi w), some (vi k), some (vi 0), x5, x6] [] (fs) I (Cs cc) n c z out)))))))) ∧ (¬ (k < (I 27 0 18)) → (Rn 71 97 [some (vr 27 0), some (vi a), some (vi w), some (vi k), some (vi 0), x5, x6] [] (fs) I (Cs cc) n c z out)))) ∧ (¬ (k < 40) → (((a = 0) → (Rf (Sum.inl (some (vi (I 27 0 4)))) fs I (Cs cc) n c z out)) ∧ (¬ (a = 0) → (((a = 1) → (Rf (Sum.inl (some (vi (I 27 0 9)))) fs I (Cs cc) n c z out)) ∧ (¬ (a = 1) → (Rf (Sum.inl (some (vi w))) fs I (Cs cc) n c z out))))))) : Rn 71 32 [some (vr 27 0), some (vi a), some (vi w), some (vi k), x4, x5, x6] [] (fs) I (Cs cc) n c z out :=
  (Rn.iload_n (pc2 := 33) rfl rfl rfl (Rn.bipush (pc2 := 35) rfl rfl (Rn.ic_ge (pc2 := 38) rfl rfl (fun q56 => (Rn.iload_n (pc2 := 39) rfl rfl rfl (Rn.aload_n (pc2 := 40) rfl rfl rfl (Rn.getI (pc2 := 43) rfl rfl rfl rfl (Rn.ic_ge (pc2 := 46) rfl rfl (fun q57 => (Rn.iload_n (pc2 := 47) rfl rfl rfl (Rn.iconst (pc2 := 48) rfl rfl (Rn.ic_ne (pc2 := 51) rfl rfl (fun q58 => (Rn.aload_n (pc2 := 52) rfl rfl rfl (Rn.getR (pc2 := 55) (q := (some (42, 0))) rfl rfl rfl rfl rfl (Rn.iload_n (pc2 := 56) rfl rfl rfl (Rn.iald (pc2 := 57) (L := 40) rfl rfl rfl (((h.1 q56).1 q57).1 q58).1 rfl (Rn.iz_eq (pc2 := 60) rfl rfl (fun q59 => (Rn.iconst (pc2 := 91) rfl rfl (Rn.goto rfl (Rn.istore (pc2 := 97) (ls2 := [some (vr 27 0), some (vi a), some (vi w), some (vi k), some (vi 1), x5, x6]) rfl rfl rfl ((((h.1 q56).1 q57).1 q58).2.1 q59))))) (fun q59 => (Rn.iload_n (pc2 := 61) rfl rfl rfl (Rn.iconst (pc2 := 62) rfl rfl (Rn.ic_ne (pc2 := 65) rfl rfl (fun q60 => (Rn.aload_n (pc2 := 66) rfl rfl rfl (Rn.getR (pc2 := 69) (q := (some (42, 0))) rfl rfl rfl rfl rfl (Rn.iload_n (pc2 := 70) rfl rfl rfl (Rn.iald (pc2 := 71) (L := 40) rfl rfl rfl (((h.1 q56).1 q57).1 q58).1 rfl (Rn.iconst (pc2 := 72) rfl rfl (Rn.ic_eq (pc2 := 75) rfl rfl (fun q61 => (Rn.iconst (pc2 := 91) rfl rfl (Rn.goto rfl (Rn.istore (pc2 := 97) (ls2 := [some (vr 27 0), some (vi a), some (vi w), some (vi k), some (vi 1), x5, x6]) rfl rfl rfl ((((((h.1 q56).1 q57).1 q58).2.2 q59).1 q60).1 q61))))) (fun q61 => (Rn.iload_n (pc2 := 76) rfl rfl rfl (Rn.iconst (pc2 := 77) rfl rfl (Rn.ic_ne (pc2 := 80) rfl rfl (fun q62 => (Rn.aload_n (pc2 := 81) rfl rfl rfl (Rn.getR (pc2 := 84) (q := (some (42, 0))) rfl rfl rfl rfl rfl (Rn.iload_n (pc2 := 85) rfl rfl rfl (Rn.iald (pc2 := 86) (L := 40) rfl rfl rfl (((h.1 q56).1 q57).1 q58).1 rfl (Rn.iconst (pc2 := 87) rfl rfl (Rn.ic_ne (pc2 := 90) rfl rfl (fun q63 => (Rn.iconst (pc2 := 91) rfl rfl (Rn.goto rfl (Rn.istore (pc2 := 97) (ls2 := [some (vr 27 0), some (vi a), some (vi w), some (vi k), some (vi 1), x5, x6]) rfl rfl rfl ((((((((h.1 q56).1 q57).1 q58).2.2 q59).1 q60).2 q61).1 q62).1 q63))))) (fun q63 => (Rn.iconst (pc2 := 95) rfl rfl (Rn.istore (pc2 := 97) (ls2 := [some (vr 27 0), some (vi a), some (vi w), some (vi k), some (vi 0), x5, x6]) rfl rfl rfl ((((((((h.1 q56).1 q57).1 q58).2.2 q59).1 q60).2 q61).1 q62).2 q63))))))))))) (fun q62 => (Rn.iconst (pc2 := 95) rfl rfl (Rn.istore (pc2 := 97) (ls2 := [some (vr 27 0), some (vi a), some (vi w), some (vi k), some (vi 0), x5, x6]) rfl rfl rfl (((((((h.1 q56).1 q57).1 q58).2.2 q59).1 q60).2 q61).2 q62))))))))))))))) (fun q60 => (Rn.iload_n (pc2 := 76) rfl rfl rfl (Rn.iconst (pc2 := 77) rfl rfl (Rn.ic_ne (pc2 := 80) rfl rfl (fun q64 => (Rn.aload_n (pc2 := 81) rfl rfl rfl (Rn.getR (pc2 := 84) (q := (some (42, 0))) rfl rfl rfl rfl rfl (Rn.iload_n (pc2 := 85) rfl rfl rfl (Rn.iald (pc2 := 86) (L := 40) rfl rfl rfl (((h.1 q56).1 q57).1 q58).1 rfl (Rn.iconst (pc2 := 87) rfl rfl (Rn.ic_ne (pc2 := 90) rfl rfl (fun q65 => (Rn.iconst (pc2 := 91) rfl rfl (Rn.goto rfl (Rn.istore (pc2 := 97) (ls2 := [some (vr 27 0), some (vi a), some (vi w), some (vi k), some (vi 1), x5, x6]) rfl rfl rfl (((((((h.1 q56).1 q57).1 q58).2.2 q59).2 q60).1 q64).1 q65))))) (fun q65 => (Rn.iconst (pc2 := 95) rfl rfl (Rn.istore (pc2 := 97) (ls2 := [some (vr 27 0), some (vi a), some (vi w), some (vi k), some (vi 0), x5, x6]) rfl rfl rfl (((((((h.1 q56).1 q57).1 q58).2.2 q59).2 q60).1 q64).2 q65))))))))))) (fun q64 => (Rn.iconst (pc2 := 95) rfl rfl (Rn.istore (pc2 := 97) (ls2 := [some (vr 27 0), some (vi a), some (vi w), some (vi k), some (vi 0), x5, x6]) rfl rfl rfl ((((((h.1 q56).1 q57).1 q58).2.2 q59).2 q60).2 q64)))))))))))))))))) (fun q58 => (Rn.iload_n (pc2 := 61) rfl rfl rfl (Rn.iconst (pc2 := 62) rfl rfl (Rn.ic_ne (pc2 := 65) rfl rfl (fun q66 => (Rn.aload_n (pc2 := 66) rfl rfl rfl (Rn.getR (pc2 := 69) (q := (some (42, 0))) rfl rfl rfl rfl rfl (Rn.iload_n (pc2 := 70) rfl rfl rfl (Rn.iald (pc2 := 71) (L := 40) rfl rfl rfl ((((h.1 q56).1 q57).2 q58).1 q66).1 rfl (Rn.iconst (pc2 := 72) rfl rfl (Rn.ic_eq (pc2 := 75) rfl rfl (fun q67 => (Rn.iconst (pc2 := 91) rfl rfl (Rn.goto rfl (Rn.istore (pc2 := 97) (ls2 := [some (vr 27 0), some (vi a), some (vi w), some (vi k), some (vi 1), x5, x6]) rfl rfl rfl (((((h.1 q56).1 q57).2 q58).1 q66).2.1 q67))))) (fun q67 => (Rn.iload_n (pc2 := 76) rfl rfl rfl (Rn.iconst (pc2 := 77) rfl rfl (Rn.ic_ne (pc2 := 80) rfl rfl (fun q68 => (Rn.aload_n (pc2 := 81) rfl rfl rfl (Rn.getR (pc2 := 84) (q := (some (42, 0))) rfl rfl rfl rfl rfl (Rn.iload_n (pc2 := 85) rfl rfl rfl (Rn.iald (pc2 := 86) (L := 40) rfl rfl rfl ((((h.1 q56).1 q57).2 q58).1 q66).1 rfl (Rn.iconst (pc2 := 87) rfl rfl (Rn.ic_ne (pc2 := 90) rfl rfl (fun q69 => (Rn.iconst (pc2 := 91) rfl rfl (Rn.goto rfl (Rn.istore (pc2 := 97) (ls2 := [some (vr 27 0), some (vi a), some (vi w), some (vi k), some (vi 1), x5, x6]) rfl rfl rfl (((((((h.1 q56).1 q57).2 q58).1 q66).2.2 q67).1 q68).1 q69))))) (fun q69 => (Rn.iconst (pc2 := 95) rfl rfl (Rn.istore (pc2 := 97) (ls2 := [some (vr 27 0), some (vi a), some (vi w), some (vi k), some (vi 0), x5, x6]) rfl rfl rfl (((((((h.1 q56).1 q57).2 q58).1 q66).2.2 q67).1 q68).2 q69))))))))))) (fun q68 => (Rn.iconst (pc2 := 95) rfl rfl (Rn.istore (pc2 := 97) (ls2 := [some (vr 27 0), some (vi a), some (vi w), some (vi k), some (vi 0), x5, x6]) rfl rfl rfl ((((((h.1 q56).1 q57).2 q58).1 q66).2.2 q67).2 q68))))))))))))))) (fun q66 => (Rn.iload_n (pc2 := 76) rfl rfl rfl (Rn.iconst (pc2 := 77) rfl rfl (Rn.ic_ne (pc2 := 80) rfl rfl (fun q70 => (Rn.aload_n (pc2 := 81) rfl rfl rfl (Rn.getR (pc2 := 84) (q := (some (42, 0))) rfl rfl rfl rfl rfl (Rn.iload_n (pc2 := 85) rfl rfl rfl (Rn.iald (pc2 := 86) (L := 40) rfl rfl rfl (((((h.1 q56).1 q57).2 q58).2 q66).1 q70).1 rfl (Rn.iconst (pc2 := 87) rfl rfl (Rn.ic_ne (pc2 := 90) rfl rfl (fun q71 => (Rn.iconst (pc2 := 91) rfl rfl (Rn.goto rfl (Rn.istore (pc2 := 97) (ls2 := [some (vr 27 0), some (vi a), some (vi w), some (vi k), some (vi 1), x5, x6]) rfl rfl rfl ((((((h.1 q56).1 q57).2 q58).2 q66).1 q70).2.1 q71))))) (fun q71 => (Rn.iconst (pc2 := 95) rfl rfl (Rn.istore (pc2 := 97) (ls2 := [some (vr 27 0), some (vi a), some (vi w), some (vi k), some (vi 0), x5, x6]) rfl rfl rfl ((((((h.1 q56).1 q57).2 q58).2 q66).1 q70).2.2 q71))))))))))) (fun q70 => (Rn.iconst (pc2 := 95) rfl rfl (Rn.istore (pc2 := 97) (ls2 := [some (vr 27 0), some (vi a), some (vi w), some (vi k), some (vi 0), x5, x6]) rfl rfl rfl (((((h.1 q56).1 q57).2 q58).2 q66).2 q70)))))))))))))))) (fun q57 => (Rn.iconst (pc2 := 95) rfl rfl (Rn.istore (pc2 := 97) (ls2 := [some (vr 27 0), some (vi a), some (vi w), some (vi k), some (vi 0), x5, x6]) rfl rfl rfl ((h.1 q56).2 q57))))))))) (fun q56 => (Rn.iload_n (pc2 := 218) rfl rfl rfl (Rn.iz_ne (pc2 := 221) rfl rfl (fun q72 => (Rn.aload_n (pc2 := 222) rfl rfl rfl (Rn.getI (pc2 := 225) rfl rfl rfl rfl (Rn.goto rfl (Rn.iret rfl rfl ((h.2 q56).1 q72)))))) (fun q72 => (Rn.iload_n (pc2 := 229) rfl rfl rfl (Rn.iconst (pc2 := 230) rfl rfl (Rn.ic_ne (pc2 := 233) rfl rfl (fun q73 => (Rn.aload_n (pc2 := 234) rfl rfl rfl (Rn.getI (pc2 := 237) rfl rfl rfl rfl (Rn.goto rfl (Rn.iret rfl rfl (((h.2 q56).2 q72).1 q73)))))) (fun q73 => (Rn.iload_n (pc2 := 241) rfl rfl rfl (Rn.iret rfl rfl (((h.2 q56).2 q72).2 q73))))))))))))))

theorem k71_97 {fs : List fr} {I : IT} {cc : Nat → Option Nat} {n c z : Nat} {out : oP} {a : Int} {w : Int} {k : Int} {p : Int} {x5 : Option av} {x6 : Option av} (h : ((k < (I 27 0 30)) → (((a = 6) → ((0 ≤ k ∧ k < 40) ∧ ((((I 53 0 (Int.toNat k)) = 0) → (Rn 71 158 [some (vr 27 0), some (vi a), some (vi w), some (vi k), some (vi p), some (vi 1), x6] [] (fs) I (Cs cc) n c z out)) ∧ (¬ ((I 53 0 (Int.toNat k)) = 0) → (((a = 7) → ((((I 53 0 (Int.toNat k)) = 1) → (Rn 71 158 [some (vr 27 0), some (vi a), some (vi w), some (vi k), some (vi p), some (vi 1), x6] [] (fs) I (Cs cc) n c z out)) ∧ (¬ ((I 53 0 (Int.toNat k)) = 1) → (((a = 8) → ((((I 58 0 (Int.toNat k)) = 0) → (Rn 71 158 [some (vr 27 0), some (vi a), some (vi w), some (vi k), some (vi p), some (vi 0), x6] [] (fs) I (Cs cc) n c z out)) ∧ (¬ ((I 58 0 (Int.toNat k)) = 0) → (Rn 71 158 [some (vr 27 0), some (vi a), some (vi w), some (vi k), some (vi p), some (vi 1), x6] [] (fs) I (Cs cc) n c z out)))) ∧ (¬ (a = 8) → (Rn 71 158 [some (vr 27 0), some (vi a), some (vi w), some (vi k), some (vi p), some (vi 0), x6] [] (fs) I (Cs cc) n c z out)))))) ∧ (¬ (a = 7) → (((a = 8) → ((((I 58 0 (Int.toNat k)) = 0) → (Rn 71 158 [some (vr 27 0), some (vi a), some (vi w), some (vi k), some (vi p), some (vi 0), x6] [] (fs) I (Cs cc) n c z out)) ∧ (¬ ((I 58 0 (Int.toNat k)) = 0) → (Rn 71 158 [some (vr 27 0), some (vi a), some (vi w), some (vi k), some (vi p), some (vi 1), x6] [] (fs) I (Cs cc) n c z out)))) ∧ (¬ (a = 8) → (Rn 71 158 [some (vr 27 0), some (vi a), some (vi w), some (vi k), some (vi p), some (vi 0), x6] [] (fs) I (Cs cc) n c z out))))))))) ∧ (¬ (a = 6) → (((a = 7) → ((0 ≤ k ∧ k < 40) ∧ ((((I 53 0 (Int.toNat k)) = 1) → (Rn 71 158 [some (vr 27 0), some (vi a), some (vi w), some (vi k), some (vi p), some (vi 1), x6] [] (fs) I (Cs cc) n c z out)) ∧ (¬ ((I 53 0 (Int.toNat k)) = 1) → (((a = 8) → ((((I 58 0 (Int.toNat k)) = 0) → (Rn 71 158 [some (vr 27 0), some (vi a), some (vi w), some (vi k), some (vi p), some (vi 0), x6] [] (fs) I (Cs cc) n c z out)) ∧ (¬ ((I 58 0 (Int.toNat k)) = 0) → (Rn 71 158 [some (vr 27 0), some (vi a), some (vi w), some (vi k), some (vi p), some (vi 1), x6] [] (fs) I (Cs cc) n c z out)))) ∧ (¬ (a = 8) → (Rn 71 158 [some (vr 27 0), some (vi a), some (vi w), some (vi k), some (vi p), some (vi 0), x6] [] (fs) I (Cs cc) n c z out))))))) ∧ (¬ (a = 7) → (((a = 8) → ((0 ≤ k ∧ k < 40) ∧ ((((I 58 0 (Int.toNat k)) = 0) → (Rn 71 158 [some (vr 27 0), some (vi a), some (vi w), some (vi k), some (vi p), some (vi 0), x6] [] (fs) I (Cs cc) n c z out)) ∧ (¬ ((I 58 0 (Int.toNat k)) = 0) → (Rn 71 158 [some (vr 27 0), some (vi a), some (vi w), some (vi k), some (vi p), some (vi 1), x6] [] (fs) I (Cs cc) n c z out))))) ∧ (¬ (a = 8) → (Rn 71 158 [some (vr 27 0), some (vi a), some (vi w), some (vi k), some (vi p), some (vi 0), x6] [] (fs) I (Cs cc) n c z out)))))))) ∧ (¬ (k < (I 27 0 30)) → (Rn 71 158 [some (vr 27 0), some (vi a), some (vi w), some (vi k), some (vi p), some (vi 0), x6] [] (fs) I (Cs cc) n c z out))) : Rn 71 97 [some (vr 27 0), some (vi a), some (vi w), some (vi k), some (vi p), x5, x6] [] (fs) I (Cs cc) n c z out :=
  (Rn.iload_n (pc2 := 98) rfl rfl rfl (Rn.aload_n (pc2 := 99) rfl rfl rfl (Rn.getI (pc2 := 102) rfl rfl rfl rfl (Rn.ic_ge (pc2 := 105) rfl rfl (fun q74 => (Rn.iload_n (pc2 := 106) rfl rfl rfl (Rn.bipush (pc2 := 108) rfl rfl (Rn.ic_ne (pc2 := 111) rfl rfl (fun q75 => (Rn.aload_n (pc2 := 112) rfl rfl rfl (Rn.getR (pc2 := 115) (q := (some (53, 0))) rfl rfl rfl rfl rfl (Rn.iload_n (pc2 := 116) rfl rfl rfl (Rn.iald (pc2 := 117) (L := 40) rfl rfl rfl ((h.1 q74).1 q75).1 rfl (Rn.iz_eq (pc2 := 120) rfl rfl (fun q76 => (Rn.iconst (pc2 := 152) rfl rfl (Rn.goto rfl (Rn.istore (pc2 := 158) (ls2 := [some (vr 27 0), some (vi a), some (vi w), some (vi k), some (vi p), some (vi 1), x6]) rfl rfl rfl (((h.1 q74).1 q75).2.1 q76))))) (fun q76 => (Rn.iload_n (pc2 := 121) rfl rfl rfl (Rn.bipush (pc2 := 123) rfl rfl (Rn.ic_ne (pc2 := 126) rfl rfl (fun q77 => (Rn.aload_n (pc2 := 127) rfl rfl rfl (Rn.getR (pc2 := 130) (q := (some (53, 0))) rfl rfl rfl rfl rfl (Rn.iload_n (pc2 := 131) rfl rfl rfl (Rn.iald (pc2 := 132) (L := 40) rfl rfl rfl ((h.1 q74).1 q75).1 rfl (Rn.iconst (pc2 := 133) rfl rfl (Rn.ic_eq (pc2 := 136) rfl rfl (fun q78 => (Rn.iconst (pc2 := 152) rfl rfl (Rn.goto rfl (Rn.istore (pc2 := 158) (ls2 := [some (vr 27 0), some (vi a), some (vi w), some (vi k), some (vi p), some (vi 1), x6]) rfl rfl rfl (((((h.1 q74).1 q75).2.2 q76).1 q77).1 q78))))) (fun q78 => (Rn.iload_n (pc2 := 137) rfl rfl rfl (Rn.bipush (pc2 := 139) rfl rfl (Rn.ic_ne (pc2 := 142) rfl rfl (fun q79 => (Rn.aload_n (pc2 := 143) rfl rfl rfl (Rn.getR (pc2 := 146) (q := (some (58, 0))) rfl rfl rfl rfl rfl (Rn.iload_n (pc2 := 147) rfl rfl rfl (Rn.bald (pc2 := 148) (L := 40) rfl rfl rfl ((h.1 q74).1 q75).1 rfl (Rn.iz_eq (pc2 := 151) rfl rfl (fun q80 => (Rn.iconst (pc2 := 156) rfl rfl (Rn.istore (pc2 := 158) (ls2 := [some (vr 27 0), some (vi a), some (vi w), some (vi k), some (vi p), some (vi 0), x6]) rfl rfl rfl (((((((h.1 q74).1 q75).2.2 q76).1 q77).2 q78).1 q79).1 q80)))) (fun q80 => (Rn.iconst (pc2 := 152) rfl rfl (Rn.goto rfl (Rn.istore (pc2 := 158) (ls2 := [some (vr 27 0), some (vi a), some (vi w), some (vi k), some (vi p), some (vi 1), x6]) rfl rfl rfl (((((((h.1 q74).1 q75).2.2 q76).1 q77).2 q78).1 q79).2 q80))))))))))) (fun q79 => (Rn.iconst (pc2 := 156) rfl rfl (Rn.istore (pc2 := 158) (ls2 := [some (vr 27 0), some (vi a), some (vi w), some (vi k), some (vi p), some (vi 0), x6]) rfl rfl rfl ((((((h.1 q74).1 q75).2.2 q76).1 q77).2 q78).2 q79))))))))))))))) (fun q77 => (Rn.iload_n (pc2 := 137) rfl rfl rfl (Rn.bipush (pc2 := 139) rfl rfl (Rn.ic_ne (pc2 := 142) rfl rfl (fun q81 => (Rn.aload_n (pc2 := 143) rfl rfl rfl (Rn.getR (pc2 := 146) (q := (some (58, 0))) rfl rfl rfl rfl rfl (Rn.iload_n (pc2 := 147) rfl rfl rfl (Rn.bald (pc2 := 148) (L := 40) rfl rfl rfl ((h.1 q74).1 q75).1 rfl (Rn.iz_eq (pc2 := 151) rfl rfl (fun q82 => (Rn.iconst (pc2 := 156) rfl rfl (Rn.istore (pc2 := 158) (ls2 := [some (vr 27 0), some (vi a), some (vi w), some (vi k), some (vi p), some (vi 0), x6]) rfl rfl rfl ((((((h.1 q74).1 q75).2.2 q76).2 q77).1 q81).1 q82)))) (fun q82 => (Rn.iconst (pc2 := 152) rfl rfl (Rn.goto rfl (Rn.istore (pc2 := 158) (ls2 := [some (vr 27 0), some (vi a), some (vi w), some (vi k), some (vi p), some (vi 1), x6]) rfl rfl rfl ((((((h.1 q74).1 q75).2.2 q76).2 q77).1 q81).2 q82))))))))))) (fun q81 => (Rn.iconst (pc2 := 156) rfl rfl (Rn.istore (pc2 := 158) (ls2 := [some (vr 27 0), some (vi a), some (vi w), some (vi k), some (vi p), some (vi 0), x6]) rfl rfl rfl (((((h.1 q74).1 q75).2.2 q76).2 q77).2 q81)))))))))))))))))) (fun q75 => (Rn.iload_n (pc2 := 121) rfl rfl rfl (Rn.bipush (pc2 := 123) rfl rfl (Rn.ic_ne (pc2 := 126) rfl rfl (fun q83 => (Rn.aload_n (pc2 := 127) rfl rfl rfl (Rn.getR (pc2 := 130) (q := (some (53, 0))) rfl rfl rfl rfl rfl (Rn.iload_n (pc2 := 131) rfl rfl rfl (Rn.iald (pc2 := 132) (L := 40) rfl rfl rfl (((h.1 q74).2 q75).1 q83).1 rfl (Rn.iconst (pc2 := 133) rfl rfl (Rn.ic_eq (pc2 := 136) rfl rfl (fun q84 => (Rn.iconst (pc2 := 152) rfl rfl (Rn.goto rfl (Rn.istore (pc2 := 158) (ls2 := [some (vr 27 0), some (vi a), some (vi w), some (vi k), some (vi p), some (vi 1), x6]) rfl rfl rfl ((((h.1 q74).2 q75).1 q83).2.1 q84))))) (fun q84 => (Rn.iload_n (pc2 := 137) rfl rfl rfl (Rn.bipush (pc2 := 139) rfl rfl (Rn.ic_ne (pc2 := 142) rfl rfl (fun q85 => (Rn.aload_n (pc2 := 143) rfl rfl rfl (Rn.getR (pc2 := 146) (q := (some (58, 0))) rfl rfl rfl rfl rfl (Rn.iload_n (pc2 := 147) rfl rfl rfl (Rn.bald (pc2 := 148) (L := 40) rfl rfl rfl (((h.1 q74).2 q75).1 q83).1 rfl (Rn.iz_eq (pc2 := 151) rfl rfl (fun q86 => (Rn.iconst (pc2 := 156) rfl rfl (Rn.istore (pc2 := 158) (ls2 := [some (vr 27 0), some (vi a), some (vi w), some (vi k), some (vi p), some (vi 0), x6]) rfl rfl rfl ((((((h.1 q74).2 q75).1 q83).2.2 q84).1 q85).1 q86)))) (fun q86 => (Rn.iconst (pc2 := 152) rfl rfl (Rn.goto rfl (Rn.istore (pc2 := 158) (ls2 := [some (vr 27 0), some (vi a), some (vi w), some (vi k), some (vi p), some (vi 1), x6]) rfl rfl rfl ((((((h.1 q74).2 q75).1 q83).2.2 q84).1 q85).2 q86))))))))))) (fun q85 => (Rn.iconst (pc2 := 156) rfl rfl (Rn.istore (pc2 := 158) (ls2 := [some (vr 27 0), some (vi a), some (vi w), some (vi k), some (vi p), some (vi 0), x6]) rfl rfl rfl (((((h.1 q74).2 q75).1 q83).2.2 q84).2 q85))))))))))))))) (fun q83 => (Rn.iload_n (pc2 := 137) rfl rfl rfl (Rn.bipush (pc2 := 139) rfl rfl (Rn.ic_ne (pc2 := 142) rfl rfl (fun q87 => (Rn.aload_n (pc2 := 143) rfl rfl rfl (Rn.getR (pc2 := 146) (q := (some (58, 0))) rfl rfl rfl rfl rfl (Rn.iload_n (pc2 := 147) rfl rfl rfl (Rn.bald (pc2 := 148) (L := 40) rfl rfl rfl ((((h.1 q74).2 q75).2 q83).1 q87).1 rfl (Rn.iz_eq (pc2 := 151) rfl rfl (fun q88 => (Rn.iconst (pc2 := 156) rfl rfl (Rn.istore (pc2 := 158) (ls2 := [some (vr 27 0), some (vi a), some (vi w), some (vi k), some (vi p), some (vi 0), x6]) rfl rfl rfl (((((h.1 q74).2 q75).2 q83).1 q87).2.1 q88)))) (fun q88 => (Rn.iconst (pc2 := 152) rfl rfl (Rn.goto rfl (Rn.istore (pc2 := 158) (ls2 := [some (vr 27 0), some (vi a), some (vi w), some (vi k), some (vi p), some (vi 1), x6]) rfl rfl rfl (((((h.1 q74).2 q75).2 q83).1 q87).2.2 q88))))))))))) (fun q87 => (Rn.iconst (pc2 := 156) rfl rfl (Rn.istore (pc2 := 158) (ls2 := [some (vr 27 0), some (vi a), some (vi w), some (vi k), some (vi p), some (vi 0), x6]) rfl rfl rfl ((((h.1 q74).2 q75).2 q83).2 q87)))))))))))))))) (fun q74 => (Rn.iconst (pc2 := 156) rfl rfl (Rn.istore (pc2 := 158) (ls2 := [some (vr 27 0), some (vi a), some (vi w), some (vi k), some (vi p), some (vi 0), x6]) rfl rfl rfl (h.2 q74))))))))

theorem k71_158 {fs : List fr} {I : IT} {cc : Nat → Option Nat} {n c z : Nat} {out : oP} {a : Int} {w : Int} {k : Int} {p : Int} {q : Int} {x6 : Option av} (h : ((a = 2) → (((k < (I 27 0 14)) → ((0 ≤ k ∧ k < 6) ∧ ((((I 39 0 (Int.toNat k)) = (-1)) → (Rn 71 188 [some (vr 27 0), some (vi a), some (vi w), some (vi k), some (vi p), some (vi q), some (vi 1)] [] (fs) I (Cs cc) n c z out)) ∧ (¬ ((I 39 0 (Int.toNat k)) = (-1)) → (Rn 71 188 [some (vr 27 0), some (vi a), some (vi w), some (vi k), some (vi p), some (vi q), some (vi 0)] [] (fs) I (Cs cc) n c z out))))) ∧ (¬ (k < (I 27 0 14)) → (Rn 71 188 [some (vr 27 0), some (vi a), some (vi w), some (vi k), some (vi p), some (vi q), some (vi 0)] [] (fs) I (Cs cc) n c z out)))) ∧ (¬ (a = 2) → (Rn 71 188 [some (vr 27 0), some (vi a), some (vi w), some (vi k), some (vi p), some (vi q), some (vi 0)] [] (fs) I (Cs cc) n c z out))) : Rn 71 158 [some (vr 27 0), some (vi a), some (vi w), some (vi k), some (vi p), some (vi q), x6] [] (fs) I (Cs cc) n c z out :=
  (Rn.iload_n (pc2 := 159) rfl rfl rfl (Rn.iconst (pc2 := 160) rfl rfl (Rn.ic_ne (pc2 := 163) rfl rfl (fun q89 => (Rn.iload_n (pc2 := 164) rfl rfl rfl (Rn.aload_n (pc2 := 165) rfl rfl rfl (Rn.getI (pc2 := 168) rfl rfl rfl rfl (Rn.ic_ge (pc2 := 171) rfl rfl (fun q90 => (Rn.aload_n (pc2 := 172) rfl rfl rfl (Rn.getR (pc2 := 175) (q := (some (39, 0))) rfl rfl rfl rfl rfl (Rn.iload_n (pc2 := 176) rfl rfl rfl (Rn.iald (pc2 := 177) (L := 6) rfl rfl rfl ((h.1 q89).1 q90).1 rfl (Rn.iconst (pc2 := 178) rfl rfl (Rn.ic_ne (pc2 := 181) rfl rfl (fun q91 => (Rn.iconst (pc2 := 182) rfl rfl (Rn.goto rfl (Rn.istore (pc2 := 188) (ls2 := [some (vr 27 0), some (vi a), some (vi w), some (vi k), some (vi p), some (vi q), some (vi 1)]) rfl rfl rfl (((h.1 q89).1 q90).2.1 q91))))) (fun q91 => (Rn.iconst (pc2 := 186) rfl rfl (Rn.istore (pc2 := 188) (ls2 := [some (vr 27 0), some (vi a), some (vi w), some (vi k), some (vi p), some (vi q), some (vi 0)]) rfl rfl rfl (((h.1 q89).1 q90).2.2 q91))))))))))) (fun q90 => (Rn.iconst (pc2 := 186) rfl rfl (Rn.istore (pc2 := 188) (ls2 := [some (vr 27 0), some (vi a), some (vi w), some (vi k), some (vi p), some (vi q), some (vi 0)]) rfl rfl rfl ((h.1 q89).2 q90))))))))) (fun q89 => (Rn.iconst (pc2 := 186) rfl rfl (Rn.istore (pc2 := 188) (ls2 := [some (vr 27 0), some (vi a), some (vi w), some (vi k), some (vi p), some (vi q), some (vi 0)]) rfl rfl rfl (h.2 q89)))))))

theorem k71_188 {fs : List fr} {I : IT} {cc : Nat → Option Nat} {n c z : Nat} {out : oP} {a : Int} {w : Int} {k : Int} {p : Int} {q : Int} {r : Int} (h : ((p = 0) → (((q = 0) → (((r = 0) → (Rn 71 32 [some (vr 27 0), some (vi a), some (vi (wr (w + 0))), some (vi (wr (k + 1))), some (vi p), some (vi q), some (vi r)] [] (fs) I (Cs cc) n c z out)) ∧ (¬ (r = 0) → (Rn 71 32 [some (vr 27 0), some (vi a), some (vi (wr (w + 1))), some (vi (wr (k + 1))), some (vi p), some (vi q), some (vi r)] [] (fs) I (Cs cc) n c z out)))) ∧ (¬ (q = 0) → (Rn 71 32 [some (vr 27 0), some (vi a), some (vi (wr (w + 1))), some (vi (wr (k + 1))), some (vi p), some (vi q), some (vi r)] [] (fs) I (Cs cc) n c z out)))) ∧ (¬ (p = 0) → (Rn 71 32 [some (vr 27 0), some (vi a), some (vi (wr (w + 1))), some (vi (wr (k + 1))), some (vi p), some (vi q), some (vi r)] [] (fs) I (Cs cc) n c z out))) : Rn 71 188 [some (vr 27 0), some (vi a), some (vi w), some (vi k), some (vi p), some (vi q), some (vi r)] [] (fs) I (Cs cc) n c z out :=
  (Rn.iload_n (pc2 := 189) rfl rfl rfl (Rn.iload (pc2 := 191) rfl rfl rfl (Rn.iz_ne (pc2 := 194) rfl rfl (fun q92 => (Rn.iload (pc2 := 196) rfl rfl rfl (Rn.iz_ne (pc2 := 199) rfl rfl (fun q93 => (Rn.iload (pc2 := 201) rfl rfl rfl (Rn.iz_eq (pc2 := 204) rfl rfl (fun q94 => (Rn.iconst (pc2 := 209) rfl rfl (Rn.iadd (pc2 := 210) rfl rfl (Rn.istore_n (pc2 := 211) (ls2 := [some (vr 27 0), some (vi a), some (vi (wr (w + 0))), some (vi k), some (vi p), some (vi q), some (vi r)]) rfl rfl rfl (Rn.iinc (pc2 := 214) (ls2 := [some (vr 27 0), some (vi a), some (vi (wr (w + 0))), some (vi (wr (k + 1))), some (vi p), some (vi q), some (vi r)]) rfl rfl rfl rfl (Rn.goto rfl (((h.1 q92).1 q93).1 q94))))))) (fun q94 => (Rn.iconst (pc2 := 205) rfl rfl (Rn.goto rfl (Rn.iadd (pc2 := 210) rfl rfl (Rn.istore_n (pc2 := 211) (ls2 := [some (vr 27 0), some (vi a), some (vi (wr (w + 1))), some (vi k), some (vi p), some (vi q), some (vi r)]) rfl rfl rfl (Rn.iinc (pc2 := 214) (ls2 := [some (vr 27 0), some (vi a), some (vi (wr (w + 1))), some (vi (wr (k + 1))), some (vi p), some (vi q), some (vi r)]) rfl rfl rfl rfl (Rn.goto rfl (((h.1 q92).1 q93).2 q94))))))))))) (fun q93 => (Rn.iconst (pc2 := 205) rfl rfl (Rn.goto rfl (Rn.iadd (pc2 := 210) rfl rfl (Rn.istore_n (pc2 := 211) (ls2 := [some (vr 27 0), some (vi a), some (vi (wr (w + 1))), some (vi k), some (vi p), some (vi q), some (vi r)]) rfl rfl rfl (Rn.iinc (pc2 := 214) (ls2 := [some (vr 27 0), some (vi a), some (vi (wr (w + 1))), some (vi (wr (k + 1))), some (vi p), some (vi q), some (vi r)]) rfl rfl rfl rfl (Rn.goto rfl ((h.1 q92).2 q93))))))))))) (fun q92 => (Rn.iconst (pc2 := 205) rfl rfl (Rn.goto rfl (Rn.iadd (pc2 := 210) rfl rfl (Rn.istore_n (pc2 := 211) (ls2 := [some (vr 27 0), some (vi a), some (vi (wr (w + 1))), some (vi k), some (vi p), some (vi q), some (vi r)]) rfl rfl rfl (Rn.iinc (pc2 := 214) (ls2 := [some (vr 27 0), some (vi a), some (vi (wr (w + 1))), some (vi (wr (k + 1))), some (vi p), some (vi q), some (vi r)]) rfl rfl rfl rfl (Rn.goto rfl (h.2 q92)))))))))))

theorem k131_0 {fs : List fr} {I : IT} {cc : Nat → Option Nat} {n c z : Nat} {out : oP} {s : Int} (h : Rn 131 4 [some (vr 16 0), some (vi s), some (vi 0), some (vi 0)] [] (fs) I (Cs cc) n c z out) : Rn 131 0 [some (vr 16 0), some (vi s), none, none] [] (fs) I (Cs cc) n c z out :=
  (Rn.iconst (pc2 := 1) rfl rfl (Rn.istore_n (pc2 := 2) (ls2 := [some (vr 16 0), some (vi s), some (vi 0), none]) rfl rfl rfl (Rn.iconst (pc2 := 3) rfl rfl (Rn.istore_n (pc2 := 4) (ls2 := [some (vr 16 0), some (vi s), some (vi 0), some (vi 0)]) rfl rfl rfl h))))

theorem k131_4 {fs : List fr} {I : IT} {cc : Nat → Option Nat} {n c z : Nat} {out : oP} {s : Int} {w : Int} {k : Int} (h : ((k < (I 16 0 1)) → ((0 ≤ k ∧ k < 40) ∧ ((((I 20 (Int.toNat k) 2) = s) → (Rn 131 4 [some (vr 16 0), some (vi s), some (vi (wr (w + 1))), some (vi (wr (k + 1)))] [] (fs) I (Cs cc) n c z out)) ∧ (¬ ((I 20 (Int.toNat k) 2) = s) → (Rn 131 4 [some (vr 16 0), some (vi s), some (vi w), some (vi (wr (k + 1)))] [] (fs) I (Cs cc) n c z out))))) ∧ (¬ (k < (I 16 0 1)) → (Rf (Sum.inl (some (vi w))) fs I (Cs cc) n c z out))) : Rn 131 4 [some (vr 16 0), some (vi s), some (vi w), some (vi k)] [] (fs) I (Cs cc) n c z out :=
  (Rn.iload_n (pc2 := 5) rfl rfl rfl (Rn.aload_n (pc2 := 6) rfl rfl rfl (Rn.getI (pc2 := 9) rfl rfl rfl rfl (Rn.ic_ge (pc2 := 12) rfl rfl (fun q95 => (Rn.aload_n (pc2 := 13) rfl rfl rfl (Rn.getR (pc2 := 16) (q := (some (18, 0))) rfl rfl rfl rfl rfl (Rn.iload_n (pc2 := 17) rfl rfl rfl (Rn.aald (pc2 := 18) (L := 40) (q := (some (20, (Int.toNat k)))) rfl rfl rfl rfl (h.1 q95).1 rfl rfl (Rn.getI (pc2 := 21) rfl rfl rfl rfl (Rn.iload_n (pc2 := 22) rfl rfl rfl (Rn.ic_ne (pc2 := 25) rfl rfl (fun q96 => (Rn.iinc (pc2 := 28) (ls2 := [some (vr 16 0), some (vi s), some (vi (wr (w + 1))), some (vi k)]) rfl rfl rfl rfl (Rn.iinc (pc2 := 31) (ls2 := [some (vr 16 0), some (vi s), some (vi (wr (w + 1))), some (vi (wr (k + 1)))]) rfl rfl rfl rfl (Rn.goto rfl ((h.1 q95).2.1 q96))))) (fun q96 => (Rn.iinc (pc2 := 31) (ls2 := [some (vr 16 0), some (vi s), some (vi w), some (vi (wr (k + 1)))]) rfl rfl rfl rfl (Rn.goto rfl ((h.1 q95).2.2 q96)))))))))))) (fun q95 => (Rn.iload_n (pc2 := 35) rfl rfl rfl (Rn.iret rfl rfl (h.2 q95))))))))

theorem k132_0 {fs : List fr} {I : IT} {cc : Nat → Option Nat} {n c z : Nat} {out : oP}  (h : Rn 132 4 [some (vr 16 0), some (vi 0), some (vi 0)] [] (fs) I (Cs cc) n c z out) : Rn 132 0 [some (vr 16 0), none, none] [] (fs) I (Cs cc) n c z out :=
  (Rn.iconst (pc2 := 1) rfl rfl (Rn.istore_n (pc2 := 2) (ls2 := [some (vr 16 0), some (vi 0), none]) rfl rfl rfl (Rn.iconst (pc2 := 3) rfl rfl (Rn.istore_n (pc2 := 4) (ls2 := [some (vr 16 0), some (vi 0), some (vi 0)]) rfl rfl rfl h))))

theorem k132_4 {fs : List fr} {I : IT} {cc : Nat → Option Nat} {n c z : Nat} {out : oP} {w : Int} {k : Int} (h : ((k < (I 16 0 0)) → ((0 ≤ k ∧ k < 6) ∧ ((cc (Int.toNat k) = none → (Rn 132 4 [some (vr 16 0), some (vi (wr (w + 1))), some (vi (wr (k + 1)))] [] (fs) I (Cs cc) n c z out)) ∧ (∀ u97, cc (Int.toNat k) = some u97 → (Rn 132 4 [some (vr 16 0), some (vi w), some (vi (wr (k + 1)))] [] (fs) I (Cs cc) n c z out))))) ∧ (¬ (k < (I 16 0 0)) → (Rf (Sum.inl (some (vi w))) fs I (Cs cc) n c z out))) : Rn 132 4 [some (vr 16 0), some (vi w), some (vi k)] [] (fs) I (Cs cc) n c z out :=
  (Rn.iload_n (pc2 := 5) rfl rfl rfl (Rn.aload_n (pc2 := 6) rfl rfl rfl (Rn.getI (pc2 := 9) rfl rfl rfl rfl (Rn.ic_ge (pc2 := 12) rfl rfl (fun q98 => (Rn.aload_n (pc2 := 13) rfl rfl rfl (Rn.getR (pc2 := 16) (q := (some (17, 0))) rfl rfl rfl rfl rfl (Rn.iload_n (pc2 := 17) rfl rfl rfl (Rn.aald (pc2 := 18) (L := 6) (q := (some (19, (Int.toNat k)))) rfl rfl rfl rfl (h.1 q98).1 rfl rfl (Rn.getR (pc2 := 21) (q := (Option.map (fun q => (20, q)) (cc (Int.toNat k)))) rfl rfl rfl rfl rfl (optc (fun r9 => Rn 132 21 [some (vr 16 0), some (vi w), some (vi k)] [vq r9] (fs) I (Cs cc) n c z out) (cc (Int.toNat k)) (fun q99 => (Rn.ifnonnullN (pc2 := 24) rfl rfl (Rn.iinc (pc2 := 27) (ls2 := [some (vr 16 0), some (vi (wr (w + 1))), some (vi k)]) rfl rfl rfl rfl (Rn.iinc (pc2 := 30) (ls2 := [some (vr 16 0), some (vi (wr (w + 1))), some (vi (wr (k + 1)))]) rfl rfl rfl rfl (Rn.goto rfl ((h.1 q98).2.1 q99)))))) (fun u97 q99 => (Rn.ifnonnullS rfl (Rn.iinc (pc2 := 30) (ls2 := [some (vr 16 0), some (vi w), some (vi (wr (k + 1)))]) rfl rfl rfl rfl (Rn.goto rfl ((h.1 q98).2.2 u97 q99)))))))))))) (fun q98 => (Rn.iload_n (pc2 := 34) rfl rfl rfl (Rn.iret rfl rfl (h.2 q98))))))))

theorem k89_0 {fs : List fr} {I : IT} {cc : Nat → Option Nat} {n c z : Nat} {out : oP} {s : Int} (h : Rn 89 4 [some (vr 21 0), some (vi s), some (vi 0), some (vi 0)] [] (fs) I (Cs cc) n c z out) : Rn 89 0 [some (vr 21 0), some (vi s), none, none] [] (fs) I (Cs cc) n c z out :=
  (Rn.iconst (pc2 := 1) rfl rfl (Rn.istore_n (pc2 := 2) (ls2 := [some (vr 21 0), some (vi s), some (vi 0), none]) rfl rfl rfl (Rn.iconst (pc2 := 3) rfl rfl (Rn.istore_n (pc2 := 4) (ls2 := [some (vr 21 0), some (vi s), some (vi 0), some (vi 0)]) rfl rfl rfl h))))

theorem k89_4 {fs : List fr} {I : IT} {cc : Nat → Option Nat} {n c z : Nat} {out : oP} {s : Int} {w : Int} {k : Int} (h : ((k < (I 21 0 1)) → ((0 ≤ k ∧ k < 40) ∧ ((((I 26 (Int.toNat k) 4) = s) → (Rn 89 4 [some (vr 21 0), some (vi s), some (vi (wr (w + 1))), some (vi (wr (k + 1)))] [] (fs) I (Cs cc) n c z out)) ∧ (¬ ((I 26 (Int.toNat k) 4) = s) → (Rn 89 4 [some (vr 21 0), some (vi s), some (vi w), some (vi (wr (k + 1)))] [] (fs) I (Cs cc) n c z out))))) ∧ (¬ (k < (I 21 0 1)) → (Rf (Sum.inl (some (vi w))) fs I (Cs cc) n c z out))) : Rn 89 4 [some (vr 21 0), some (vi s), some (vi w), some (vi k)] [] (fs) I (Cs cc) n c z out :=
  (Rn.iload_n (pc2 := 5) rfl rfl rfl (Rn.aload_n (pc2 := 6) rfl rfl rfl (Rn.getI (pc2 := 9) rfl rfl rfl rfl (Rn.ic_ge (pc2 := 12) rfl rfl (fun q100 => (Rn.aload_n (pc2 := 13) rfl rfl rfl (Rn.getR (pc2 := 16) (q := (some (23, 0))) rfl rfl rfl rfl rfl (Rn.iload_n (pc2 := 17) rfl rfl rfl (Rn.aald (pc2 := 18) (L := 40) (q := (some (26, (Int.toNat k)))) rfl rfl rfl rfl (h.1 q100).1 rfl rfl (Rn.getI (pc2 := 21) rfl rfl rfl rfl (Rn.iload_n (pc2 := 22) rfl rfl rfl (Rn.ic_ne (pc2 := 25) rfl rfl (fun q101 => (Rn.iinc (pc2 := 28) (ls2 := [some (vr 21 0), some (vi s), some (vi (wr (w + 1))), some (vi k)]) rfl rfl rfl rfl (Rn.iinc (pc2 := 31) (ls2 := [some (vr 21 0), some (vi s), some (vi (wr (w + 1))), some (vi (wr (k + 1)))]) rfl rfl rfl rfl (Rn.goto rfl ((h.1 q100).2.1 q101))))) (fun q101 => (Rn.iinc (pc2 := 31) (ls2 := [some (vr 21 0), some (vi s), some (vi w), some (vi (wr (k + 1)))]) rfl rfl rfl rfl (Rn.goto rfl ((h.1 q100).2.2 q101)))))))))))) (fun q100 => (Rn.iload_n (pc2 := 35) rfl rfl rfl (Rn.iret rfl rfl (h.2 q100))))))))

theorem k90_0 {fs : List fr} {I : IT} {cc : Nat → Option Nat} {n c z : Nat} {out : oP}  (h : Rn 90 4 [some (vr 21 0), some (vi 0), some (vi 0)] [] (fs) I (Cs cc) n c z out) : Rn 90 0 [some (vr 21 0), none, none] [] (fs) I (Cs cc) n c z out :=
  (Rn.iconst (pc2 := 1) rfl rfl (Rn.istore_n (pc2 := 2) (ls2 := [some (vr 21 0), some (vi 0), none]) rfl rfl rfl (Rn.iconst (pc2 := 3) rfl rfl (Rn.istore_n (pc2 := 4) (ls2 := [some (vr 21 0), some (vi 0), some (vi 0)]) rfl rfl rfl h))))

theorem k90_4 {fs : List fr} {I : IT} {cc : Nat → Option Nat} {n c z : Nat} {out : oP} {w : Int} {k : Int} (h : ((k < (I 21 0 1)) → ((0 ≤ k ∧ k < 40) ∧ ((((I 26 (Int.toNat k) 8) = 0) → (Rn 90 4 [some (vr 21 0), some (vi w), some (vi (wr (k + 1)))] [] (fs) I (Cs cc) n c z out)) ∧ (¬ ((I 26 (Int.toNat k) 8) = 0) → (Rn 90 4 [some (vr 21 0), some (vi (wr (w + 1))), some (vi (wr (k + 1)))] [] (fs) I (Cs cc) n c z out))))) ∧ (¬ (k < (I 21 0 1)) → (Rf (Sum.inl (some (vi w))) fs I (Cs cc) n c z out))) : Rn 90 4 [some (vr 21 0), some (vi w), some (vi k)] [] (fs) I (Cs cc) n c z out :=
  (Rn.iload_n (pc2 := 5) rfl rfl rfl (Rn.aload_n (pc2 := 6) rfl rfl rfl (Rn.getI (pc2 := 9) rfl rfl rfl rfl (Rn.ic_ge (pc2 := 12) rfl rfl (fun q102 => (Rn.aload_n (pc2 := 13) rfl rfl rfl (Rn.getR (pc2 := 16) (q := (some (23, 0))) rfl rfl rfl rfl rfl (Rn.iload_n (pc2 := 17) rfl rfl rfl (Rn.aald (pc2 := 18) (L := 40) (q := (some (26, (Int.toNat k)))) rfl rfl rfl rfl (h.1 q102).1 rfl rfl (Rn.getI (pc2 := 21) rfl rfl rfl rfl (Rn.iz_eq (pc2 := 24) rfl rfl (fun q103 => (Rn.iinc (pc2 := 30) (ls2 := [some (vr 21 0), some (vi w), some (vi (wr (k + 1)))]) rfl rfl rfl rfl (Rn.goto rfl ((h.1 q102).2.1 q103)))) (fun q103 => (Rn.iinc (pc2 := 27) (ls2 := [some (vr 21 0), some (vi (wr (w + 1))), some (vi k)]) rfl rfl rfl rfl (Rn.iinc (pc2 := 30) (ls2 := [some (vr 21 0), some (vi (wr (w + 1))), some (vi (wr (k + 1)))]) rfl rfl rfl rfl (Rn.goto rfl ((h.1 q102).2.2 q103)))))))))))) (fun q102 => (Rn.iload_n (pc2 := 34) rfl rfl rfl (Rn.iret rfl rfl (h.2 q102))))))))

theorem k158_0 {fs : List fr} {I : IT} {cc : Nat → Option Nat} {n c z : Nat} {out : oP} {a : Int} (h : ((a = 0) → (Rf (Sum.inl (some (vi 0))) fs (up3 I 59 0 (Int.toNat 0) (I 3 0 0)) (Cs cc) n c z out)) ∧ (¬ (a = 0) → (((a = 1) → (Rf (Sum.inl (some (vi 0))) fs (up3 I 59 0 (Int.toNat 0) (I 3 0 5)) (Cs cc) n c z out)) ∧ (¬ (a = 1) → (((a = 2) → (Rn 132 0 [some (vr 16 0), none, none] [] ((22, 72, [some (vr 0 0), some (vi a)], []) :: (158, 4, [some (vr 0 0), some (vi a), some (vr 59 0), none], [vi 0, vr 59 0]) :: fs) I (Cs cc) n c z out)) ∧ (¬ (a = 2) → (((a = 3) → (Rn 131 0 [some (vr 16 0), some (vi 0), none, none] [] ((22, 81, [some (vr 0 0), some (vi a)], []) :: (158, 4, [some (vr 0 0), some (vi a), some (vr 59 0), none], [vi 0, vr 59 0]) :: fs) I (Cs cc) n c z out)) ∧ (¬ (a = 3) → (((a = 4) → (Rn 131 0 [some (vr 16 0), some (vi 3), none, none] [] ((22, 90, [some (vr 0 0), some (vi a)], []) :: (158, 4, [some (vr 0 0), some (vi a), some (vr 59 0), none], [vi 0, vr 59 0]) :: fs) I (Cs cc) n c z out)) ∧ (¬ (a = 4) → (((a = 5) → (Rn 131 0 [some (vr 16 0), some (vi 2), none, none] [] ((22, 99, [some (vr 0 0), some (vi a)], []) :: (158, 4, [some (vr 0 0), some (vi a), some (vr 59 0), none], [vi 0, vr 59 0]) :: fs) I (Cs cc) n c z out)) ∧ (¬ (a = 5) → (((a = 6) → (Rn 89 0 [some (vr 21 0), some (vi 0), none, none] [] ((22, 108, [some (vr 0 0), some (vi a)], []) :: (158, 4, [some (vr 0 0), some (vi a), some (vr 59 0), none], [vi 0, vr 59 0]) :: fs) I (Cs cc) n c z out)) ∧ (¬ (a = 6) → (((a = 7) → (Rn 89 0 [some (vr 21 0), some (vi 1), none, none] [] ((22, 117, [some (vr 0 0), some (vi a)], []) :: (158, 4, [some (vr 0 0), some (vi a), some (vr 59 0), none], [vi 0, vr 59 0]) :: fs) I (Cs cc) n c z out)) ∧ (¬ (a = 7) → (((a = 8) → (Rn 90 0 [some (vr 21 0), none, none] [] ((22, 125, [some (vr 0 0), some (vi a)], []) :: (158, 4, [some (vr 0 0), some (vi a), some (vr 59 0), none], [vi 0, vr 59 0]) :: fs) I (Cs cc) n c z out)) ∧ (¬ (a = 8) → (Rf (Sum.inl (some (vi 1))) fs I (Cs cc) n (c + 1) (z + 6) out))))))))))))))))))) : Rn 158 0 [some (vr 0 0), some (vi a), some (vr 59 0), none] [] (fs) I (Cs cc) n c z out :=
  (Rn.aload_n (pc2 := 1) rfl rfl rfl (Rn.iconst (pc2 := 2) rfl rfl (Rn.aload_n (pc2 := 3) rfl rfl rfl (Rn.iload_n (pc2 := 4) rfl rfl rfl (Rn.ivir (as := [vi a]) (r := [vi 0, vr 59 0]) (ls2 := [some (vr 0 0), some (vi a)]) (f := 0) (i := 0) rfl rfl rfl rfl rfl rfl rfl (Rn.iload_n (pc2 := 1) rfl rfl rfl (Rn.tsw (T := fun t => Rn 22 t [some (vr 0 0), some (vi a)] [] ((158, 4, [some (vr 0 0), some (vi a), some (vr 59 0), none], [vi 0, vr 59 0]) :: fs) I (Cs cc) n c z out) rfl (swt_c (fun q104 => (Rn.aload_n (pc2 := 53) rfl rfl rfl (Rn.getR (pc2 := 56) (q := (some (3, 0))) rfl rfl rfl rfl rfl (Rn.getI (pc2 := 59) rfl rfl rfl rfl (Rn.iret rfl rfl (Rf.sm (pc2 := 7) rfl (Rn.i2l (pc2 := 8) rfl rfl (Rn.last (pc2 := 9) (L := 1) rfl rfl rfl (by decide) rfl (Rn.goto rfl (Rn.iconst (pc2 := 16) rfl rfl (Rn.iret rfl rfl (h.1 q104)))))))))))) (fun q104 => (swt_c (fun q105 => (Rn.aload_n (pc2 := 61) rfl rfl rfl (Rn.getR (pc2 := 64) (q := (some (3, 0))) rfl rfl rfl rfl rfl (Rn.getI (pc2 := 67) rfl rfl rfl rfl (Rn.iret rfl rfl (Rf.sm (pc2 := 7) rfl (Rn.i2l (pc2 := 8) rfl rfl (Rn.last (pc2 := 9) (L := 1) rfl rfl rfl (by decide) rfl (Rn.goto rfl (Rn.iconst (pc2 := 16) rfl rfl (Rn.iret rfl rfl ((h.2 q104).1 q105)))))))))))) (fun q105 => (swt_c (fun q106 => (Rn.aload_n (pc2 := 69) rfl rfl rfl (Rn.getR (pc2 := 72) (q := (some (16, 0))) rfl rfl rfl rfl rfl (Rn.ivir (as := []) (r := []) (ls2 := [some (vr 16 0), none, none]) (f := 16) (i := 0) rfl rfl rfl rfl rfl rfl rfl (((h.2 q104).2 q105).1 q106))))) (fun q106 => (swt_c (fun q107 => (Rn.aload_n (pc2 := 77) rfl rfl rfl (Rn.getR (pc2 := 80) (q := (some (16, 0))) rfl rfl rfl rfl rfl (Rn.iconst (pc2 := 81) rfl rfl (Rn.ivir (as := [vi 0]) (r := []) (ls2 := [some (vr 16 0), some (vi 0), none, none]) (f := 16) (i := 0) rfl rfl rfl rfl rfl rfl rfl ((((h.2 q104).2 q105).2 q106).1 q107)))))) (fun q107 => (swt_c (fun q108 => (Rn.aload_n (pc2 := 86) rfl rfl rfl (Rn.getR (pc2 := 89) (q := (some (16, 0))) rfl rfl rfl rfl rfl (Rn.iconst (pc2 := 90) rfl rfl (Rn.ivir (as := [vi 3]) (r := []) (ls2 := [some (vr 16 0), some (vi 3), none, none]) (f := 16) (i := 0) rfl rfl rfl rfl rfl rfl rfl (((((h.2 q104).2 q105).2 q106).2 q107).1 q108)))))) (fun q108 => (swt_c (fun q109 => (Rn.aload_n (pc2 := 95) rfl rfl rfl (Rn.getR (pc2 := 98) (q := (some (16, 0))) rfl rfl rfl rfl rfl (Rn.iconst (pc2 := 99) rfl rfl (Rn.ivir (as := [vi 2]) (r := []) (ls2 := [some (vr 16 0), some (vi 2), none, none]) (f := 16) (i := 0) rfl rfl rfl rfl rfl rfl rfl ((((((h.2 q104).2 q105).2 q106).2 q107).2 q108).1 q109)))))) (fun q109 => (swt_c (fun q110 => (Rn.aload_n (pc2 := 104) rfl rfl rfl (Rn.getR (pc2 := 107) (q := (some (21, 0))) rfl rfl rfl rfl rfl (Rn.iconst (pc2 := 108) rfl rfl (Rn.ivir (as := [vi 0]) (r := []) (ls2 := [some (vr 21 0), some (vi 0), none, none]) (f := 21) (i := 0) rfl rfl rfl rfl rfl rfl rfl (((((((h.2 q104).2 q105).2 q106).2 q107).2 q108).2 q109).1 q110)))))) (fun q110 => (swt_c (fun q111 => (Rn.aload_n (pc2 := 113) rfl rfl rfl (Rn.getR (pc2 := 116) (q := (some (21, 0))) rfl rfl rfl rfl rfl (Rn.iconst (pc2 := 117) rfl rfl (Rn.ivir (as := [vi 1]) (r := []) (ls2 := [some (vr 21 0), some (vi 1), none, none]) (f := 21) (i := 0) rfl rfl rfl rfl rfl rfl rfl ((((((((h.2 q104).2 q105).2 q106).2 q107).2 q108).2 q109).2 q110).1 q111)))))) (fun q111 => (swt_c (fun q112 => (Rn.aload_n (pc2 := 122) rfl rfl rfl (Rn.getR (pc2 := 125) (q := (some (21, 0))) rfl rfl rfl rfl rfl (Rn.ivir (as := []) (r := []) (ls2 := [some (vr 21 0), none, none]) (f := 21) (i := 0) rfl rfl rfl rfl rfl rfl rfl (((((((((h.2 q104).2 q105).2 q106).2 q107).2 q108).2 q109).2 q110).2 q111).1 q112))))) (fun q112 => (Rn.thr (c2 := c + 1) (z2 := z + 6) rfl rfl rfl rfl (Rf.catch (ls2 := [some (vr 0 0), some (vi a), some (vr 59 0), none]) (hp := 13) rfl rfl (Rn.iconst (pc2 := 14) rfl rfl (Rn.iret rfl rfl (((((((((h.2 q104).2 q105).2 q106).2 q107).2 q108).2 q109).2 q110).2 q111).2 q112))))))))))))))))))))))) (fun _ h9 => h9))))))))

theorem k158_7 {fs : List fr} {I : IT} {cc : Nat → Option Nat} {n c z : Nat} {out : oP} {a : Int} {x : Option av} {v : Int} (h : Rf (Sum.inl (some (vi 0))) fs (up3 I 59 0 (Int.toNat 0) v) (Cs cc) n c z out) : Rn 158 7 [some (vr 0 0), some (vi a), some (vr 59 0), x] [vi v, vi 0, vr 59 0] (fs) I (Cs cc) n c z out :=
  (Rn.i2l (pc2 := 8) rfl rfl (Rn.last (pc2 := 9) (L := 1) rfl rfl rfl (by decide) rfl (Rn.goto rfl (Rn.iconst (pc2 := 16) rfl rfl (Rn.iret rfl rfl h)))))

theorem k22_75 {fs : List fr} {I : IT} {cc : Nat → Option Nat} {n c z : Nat} {out : oP} {a : Int} {v : Int} (h : Rf (Sum.inl (some (vi v))) fs I (Cs cc) n c z out) : Rn 22 75 [some (vr 0 0), some (vi a)] [vi v] (fs) I (Cs cc) n c z out :=
  (Rn.iret rfl rfl h)

theorem k22_84 {fs : List fr} {I : IT} {cc : Nat → Option Nat} {n c z : Nat} {out : oP} {a : Int} {v : Int} (h : Rf (Sum.inl (some (vi v))) fs I (Cs cc) n c z out) : Rn 22 84 [some (vr 0 0), some (vi a)] [vi v] (fs) I (Cs cc) n c z out :=
  (Rn.iret rfl rfl h)

theorem k22_93 {fs : List fr} {I : IT} {cc : Nat → Option Nat} {n c z : Nat} {out : oP} {a : Int} {v : Int} (h : Rf (Sum.inl (some (vi v))) fs I (Cs cc) n c z out) : Rn 22 93 [some (vr 0 0), some (vi a)] [vi v] (fs) I (Cs cc) n c z out :=
  (Rn.iret rfl rfl h)

theorem k22_102 {fs : List fr} {I : IT} {cc : Nat → Option Nat} {n c z : Nat} {out : oP} {a : Int} {v : Int} (h : Rf (Sum.inl (some (vi v))) fs I (Cs cc) n c z out) : Rn 22 102 [some (vr 0 0), some (vi a)] [vi v] (fs) I (Cs cc) n c z out :=
  (Rn.iret rfl rfl h)

theorem k22_111 {fs : List fr} {I : IT} {cc : Nat → Option Nat} {n c z : Nat} {out : oP} {a : Int} {v : Int} (h : Rf (Sum.inl (some (vi v))) fs I (Cs cc) n c z out) : Rn 22 111 [some (vr 0 0), some (vi a)] [vi v] (fs) I (Cs cc) n c z out :=
  (Rn.iret rfl rfl h)

theorem k22_120 {fs : List fr} {I : IT} {cc : Nat → Option Nat} {n c z : Nat} {out : oP} {a : Int} {v : Int} (h : Rf (Sum.inl (some (vi v))) fs I (Cs cc) n c z out) : Rn 22 120 [some (vr 0 0), some (vi a)] [vi v] (fs) I (Cs cc) n c z out :=
  (Rn.iret rfl rfl h)

theorem k22_128 {fs : List fr} {I : IT} {cc : Nat → Option Nat} {n c z : Nat} {out : oP} {a : Int} {v : Int} (h : Rf (Sum.inl (some (vi v))) fs I (Cs cc) n c z out) : Rn 22 128 [some (vr 0 0), some (vi a)] [vi v] (fs) I (Cs cc) n c z out :=
  (Rn.iret rfl rfl h)

def cnt (f : Nat → Int) : Nat → Int
  | 0 => 0
  | k + 1 => cnt f k + f k
theorem cnt_in {f : Nat → Int} (hf : ∀ k, f k = 0 ∨ f k = 1) : ∀ k : Nat, 0 ≤ cnt f k ∧ cnt f k ≤ (k : Int) := by
  intro k
  induction k with
  | zero => unfold cnt; omega
  | succ k ih => unfold cnt; have := hf k; omega
theorem cnt_stop {f : Nat → Int} {m : Nat} (hf : ∀ k, m ≤ k → f k = 0) : ∀ n, m ≤ n → cnt f n = cnt f m := by
  intro n
  induction n with
  | zero => intro h; rw [show m = 0 by omega]
  | succ n ih =>
    intro h
    by_cases e : m = n + 1
    · rw [e]
    · show cnt f n + f n = _
      rw [hf n (by omega), ih (by omega)]; omega
theorem cnt_eq {f g : Nat → Int} (h : ∀ k, f k = g k) : ∀ n, cnt f n = cnt g n := by
  intro n
  induction n with
  | zero => rfl
  | succ n ih => unfold cnt; rw [ih, h n]
def pc1 (S : IT) (a : Int) (k : Nat) : Int := if (k : Int) < S 27 0 18 ∧ ((a = 3 ∧ S 42 0 k = 0) ∨ (a = 4 ∧ S 42 0 k = 3) ∨ (a = 5 ∧ S 42 0 k = 2)) then 1 else 0
def pc2 (S : IT) (a : Int) (k : Nat) : Int := if (k : Int) < S 27 0 30 ∧ ((a = 6 ∧ S 53 0 k = 0) ∨ (a = 7 ∧ S 53 0 k = 1) ∨ (a = 8 ∧ ¬ S 58 0 k = 0)) then 1 else 0
def pc3 (S : IT) (a : Int) (k : Nat) : Int := if a = 2 ∧ (k : Int) < S 27 0 14 ∧ S 39 0 k = -1 then 1 else 0
def cf (S : IT) (a : Int) (k : Nat) : Int := if pc1 S a k = 0 ∧ pc2 S a k = 0 ∧ pc3 S a k = 0 then 0 else 1
theorem cf_in {S : IT} {a : Int} (k : Nat) : cf S a k = 0 ∨ cf S a k = 1 := by unfold cf; split <;> omega
def coT (a : Int) : Int := if 0 ≤ a ∧ a ≤ 8 then 0 else 1
def coV (S : IT) (a : Int) : Int := if a = 0 then S 27 0 4 else if a = 1 then S 27 0 9 else cnt (cf S a) 40
theorem ok_count (a : Int) : OKm (fun S => OP (coT a) (Zq S) S) (fun S => OV (coT a) (coV S a)) := OKq (fun S S2 h => rfl) (fun S S2 h _ => by
  have h9 : ∀ f i j, 27 ≤ f → f ≤ 58 → S2 f i j = S f i j := h
  unfold coV
  rw [h9 27 0 4 (by omega) (by omega), h9 27 0 9 (by omega) (by omega), cnt_eq (f := cf S2 a) (g := cf S a) (fun k => by
    unfold cf pc1 pc2 pc3
    simp (disch := omega) only [h9])])
theorem m_cnt_l {fs : List fr} {I : IT} {cc : Nat → Option Nat} {n c z : Nat} {out : oP} (V : VI I) {a : Int} (h : Rf (Sum.inl (some (vi (coV I a)))) fs I (Cs cc) n c z out) : ∀ (d k : Nat) (x4 x5 x6 : Option av), k + d = 40 → Rn 71 32 [some (vr 27 0), some (vi a), some (vi (cnt (cf I a) k)), some (vi (k : Int)), x4, x5, x6] [] fs I (Cs cc) n c z out := by
  have N := VI_num V
  intro d
  induction d with
  | zero =>
    intro k x4 x5 x6 hk
    refine k71_32 ⟨fun h1 => by omega, fun h1 => ?_⟩
    unfold coV at h
    rw [show k = 40 by omega]
    refine ⟨fun g => ?_, fun g => ⟨fun g2 => ?_, fun g2 => ?_⟩⟩
    · rw [if_pos g] at h; exact h
    · rw [if_neg g, if_pos g2] at h; exact h
    · rw [if_neg g, if_neg g2] at h; exact h
  | succ d ih =>
    intro k x4 x5 x6 hk
    have nx := fun x4 x5 x6 => ih (k + 1) x4 x5 x6 (by omega)
    have hc := cnt_in (cf_in (S := I) (a := a)) k
    have n4 : ∀ p q r, p = pc1 I a k → q = pc2 I a k → r = pc3 I a k → Rn 71 188 [some (vr 27 0), some (vi a), some (vi (cnt (cf I a) k)), some (vi (k : Int)), some (vi p), some (vi q), some (vi r)] [] fs I (Cs cc) n c z out := fun p q r hp hq hr => by
      have e : cnt (cf I a) (k + 1) = cnt (cf I a) k + cf I a k := rfl
      have n9 : ∀ w, w = cnt (cf I a) (k + 1) → Rn 71 32 [some (vr 27 0), some (vi a), some (vi w), some (vi ((k + 1 : Nat) : Int)), some (vi p), some (vi q), some (vi r)] [] fs I (Cs cc) n c z out := fun w hw => by rw [hw]; exact nx _ _ _
      have c0 : p = 0 → q = 0 → r = 0 → cf I a k = 0 := fun a1 a2 a3 => if_pos ⟨by omega, by omega, by omega⟩
      have c1 : ¬ (p = 0 ∧ q = 0 ∧ r = 0) → cf I a k = 1 := fun g => if_neg (by omega)
      refine k71_188 ?_
      rw [wrI (x := cnt (cf I a) k + 0) (by omega) (by omega), wrI (x := cnt (cf I a) k + 1) (by omega) (by omega), wrI (x := (k : Int) + 1) (by omega) (by omega), nS]
      refine ⟨fun h1 => ⟨fun h2 => ⟨fun h3 => n9 _ (by rw [e, c0 h1 h2 h3]), fun h3 => n9 _ (by rw [e, c1 (by omega)])⟩, fun h2 => n9 _ (by rw [e, c1 (by omega)])⟩, fun h1 => n9 _ (by rw [e, c1 (by omega)])⟩
    have n3 : ∀ p q x6, p = pc1 I a k → q = pc2 I a k → Rn 71 158 [some (vr 27 0), some (vi a), some (vi (cnt (cf I a) k)), some (vi (k : Int)), some (vi p), some (vi q), x6] [] fs I (Cs cc) n c z out := fun p q x6 hp hq => by
      refine k71_158 ?_
      rw [Int.toNat_natCast]
      repeat' (first | apply And.intro | intro _)
      all_goals first | omega | exact n4 p q _ hp hq (by unfold pc3; (repeat' split) <;> omega)
    have n2 : ∀ p x5 x6, p = pc1 I a k → Rn 71 97 [some (vr 27 0), some (vi a), some (vi (cnt (cf I a) k)), some (vi (k : Int)), some (vi p), x5, x6] [] fs I (Cs cc) n c z out := fun p x5 x6 hp => by
      refine k71_97 ?_
      rw [Int.toNat_natCast]
      repeat' (first | apply And.intro | intro _)
      all_goals first | omega | exact n3 p _ _ hp (by unfold pc2; (repeat' split) <;> omega)
    refine k71_32 ?_
    rw [Int.toNat_natCast]
    refine ⟨fun h1 => ?_, fun h1 => by omega⟩
    repeat' (first | apply And.intro | intro _)
    all_goals first | omega | exact n2 _ _ _ (by unfold pc1; (repeat' split) <;> omega)
theorem mo_count {fs : List fr} {I : IT} {cc : Nat → Option Nat} {n c z : Nat} {out : oP} (V : VI I) {a : Int} (h : Rf (Sum.inl (some (vi (OV (coT a) (coV I a))))) fs (OP (coT a) (Zq I) I) (Cs cc) n c z out) : Rn 71 0 [some (vr 27 0), some (vi a), none, none, none, none, none] [] fs I (Cs cc) n c z out := by
  obtain ⟨e1, e0⟩ := MOo h
  have b1 : ¬ (0 ≤ a ∧ a ≤ 8) → Rn 71 20 [some (vr 27 0), some (vi a), none, none, none, none, none] [vr 27 0] fs (up3 I 27 0 41 1) (Cs cc) n c z out := fun g => k71_20 ⟨fun _ => e1 1 (by omega) (if_neg g), fun q => absurd (show (0 : Int) < up3 I 27 0 41 1 27 0 41 by rw [up3_eq]; omega) q⟩
  refine k71_0 ⟨fun h1 => b1 (by omega), fun h1 => ⟨fun h2 => b1 (by omega), fun h2 => ?_⟩⟩
  have e0 := e0 (if_pos ⟨by omega, by omega⟩)
  refine k71_20 ⟨fun q => absurd q (by rw [up3_eq]; omega), fun _ => ?_⟩
  have ev : coV (up3 I 27 0 41 0) a = coV I a := rfl
  exact m_cnt_l (VI_N agN_thr V) (by rw [ev]; exact e0) 40 0 _ _ _ (by omega)

theorem c131_l {fs : List fr} {I S : IT} {cc : Nat → Option Nat} {n c z : Nat} {out : oP} (R : RC I cc S) (h40 : 0 ≤ S 27 0 18 ∧ S 27 0 18 ≤ 40) {s : Int} {f : Nat → Int} (h01 : ∀ k, f k = 0 ∨ f k = 1) (hf : ∀ k : Nat, (k : Int) < S 27 0 18 → f k = if S 42 0 k = s then 1 else 0) (h : Rf (Sum.inl (some (vi (cnt f (S 27 0 18).toNat)))) fs I (Cs cc) n c z out) : ∀ d k : Nat, k + d = (S 27 0 18).toNat → Rn 131 4 [some (vr 16 0), some (vi s), some (vi (cnt f k)), some (vi (k : Int))] [] fs I (Cs cc) n c z out := by
  obtain ⟨r1, r2, r3, r4⟩ := R
  intro d
  induction d with
  | zero =>
    intro k hk
    refine k131_4 ⟨fun h1 => by omega, fun h1 => ?_⟩
    rw [show k = (S 27 0 18).toNat by omega]; exact h
  | succ d ih =>
    intro k hk
    have nx := ih (k + 1) (by omega)
    have hc := cnt_in h01 k
    have hfk := hf k (by omega)
    have e : cnt f (k + 1) = cnt f k + f k := rfl
    have n9 : ∀ w, w = cnt f (k + 1) → Rn 131 4 [some (vr 16 0), some (vi s), some (vi w), some (vi ((k + 1 : Nat) : Int))] [] fs I (Cs cc) n c z out := fun w hw => by rw [hw]; exact nx
    have d2 := ((r4 k (by omega)).1 (by omega)).2.2.1
    refine k131_4 ⟨fun h1 => ?_, fun h1 => by omega⟩
    rw [Int.toNat_natCast, wrI (x := cnt f k + 1) (by omega) (by omega), wrI (x := (k : Int) + 1) (by omega) (by omega), nS]
    refine ⟨by omega, fun g => n9 _ (by rw [e, hfk, if_pos (by omega)]), fun g => n9 _ (by rw [e, hfk, if_neg (by omega)]; omega)⟩

theorem c132_l {fs : List fr} {I S : IT} {cc : Nat → Option Nat} {n c z : Nat} {out : oP} (R : RC I cc S) (h40 : 0 ≤ S 27 0 14 ∧ S 27 0 14 ≤ 6) {s : Int} {f : Nat → Int} (h01 : ∀ k, f k = 0 ∨ f k = 1) (hf : ∀ k : Nat, (k : Int) < S 27 0 14 → f k = if S 39 0 k = -1 then 1 else 0) (h : Rf (Sum.inl (some (vi (cnt f (S 27 0 14).toNat)))) fs I (Cs cc) n c z out) : ∀ d k : Nat, k + d = (S 27 0 14).toNat → Rn 132 4 [some (vr 16 0), some (vi (cnt f k)), some (vi (k : Int))] [] fs I (Cs cc) n c z out := by
  obtain ⟨r1, r2, r3, r4⟩ := R
  intro d
  induction d with
  | zero =>
    intro k hk
    refine k132_4 ⟨fun h1 => by omega, fun h1 => ?_⟩
    rw [show k = (S 27 0 14).toNat by omega]; exact h
  | succ d ih =>
    intro k hk
    have nx := ih (k + 1) (by omega)
    have hc := cnt_in h01 k
    have hfk := hf k (by omega)
    have e : cnt f (k + 1) = cnt f k + f k := rfl
    have n9 : ∀ w, w = cnt f (k + 1) → Rn 132 4 [some (vr 16 0), some (vi w), some (vi ((k + 1 : Nat) : Int))] [] fs I (Cs cc) n c z out := fun w hw => by rw [hw]; exact nx
    have d2 := ((r3 k (by omega)).2.1 (by omega)).2
    refine k132_4 ⟨fun h1 => ?_, fun h1 => by omega⟩
    rw [Int.toNat_natCast, wrI (x := cnt f k + 1) (by omega) (by omega), wrI (x := (k : Int) + 1) (by omega) (by omega), nS]
    refine ⟨by omega, fun g => n9 _ (by rw [g] at d2; have d2 : S 39 0 k = -1 := d2; rw [e, hfk, if_pos d2]), fun u g => n9 _ (by rw [g] at d2; have d2 : S 39 0 k = (u : Int) := d2; rw [e, hfk, if_neg (by omega)]; omega)⟩

theorem c89_l {fs : List fr} {I S : IT} {cc : Nat → Option Nat} {n c z : Nat} {out : oP} (R : RD I S) (h40 : 0 ≤ S 27 0 30 ∧ S 27 0 30 ≤ 40) {s : Int} {f : Nat → Int} (h01 : ∀ k, f k = 0 ∨ f k = 1) (hf : ∀ k : Nat, (k : Int) < S 27 0 30 → f k = if S 53 0 k = s then 1 else 0) (h : Rf (Sum.inl (some (vi (cnt f (S 27 0 30).toNat)))) fs I (Cs cc) n c z out) : ∀ d k : Nat, k + d = (S 27 0 30).toNat → Rn 89 4 [some (vr 21 0), some (vi s), some (vi (cnt f k)), some (vi (k : Int))] [] fs I (Cs cc) n c z out := by
  obtain ⟨r1, r2, r3, r4⟩ := R
  intro d
  induction d with
  | zero =>
    intro k hk
    refine k89_4 ⟨fun h1 => by omega, fun h1 => ?_⟩
    rw [show k = (S 27 0 30).toNat by omega]; exact h
  | succ d ih =>
    intro k hk
    have nx := ih (k + 1) (by omega)
    have hc := cnt_in h01 k
    have hfk := hf k (by omega)
    have e : cnt f (k + 1) = cnt f k + f k := rfl
    have n9 : ∀ w, w = cnt f (k + 1) → Rn 89 4 [some (vr 21 0), some (vi s), some (vi w), some (vi ((k + 1 : Nat) : Int))] [] fs I (Cs cc) n c z out := fun w hw => by rw [hw]; exact nx
    have d2 := ((r4 k (by omega)).2.1 (by omega)).2.2.2.2.1
    refine k89_4 ⟨fun h1 => ?_, fun h1 => by omega⟩
    rw [Int.toNat_natCast, wrI (x := cnt f k + 1) (by omega) (by omega), wrI (x := (k : Int) + 1) (by omega) (by omega), nS]
    refine ⟨by omega, fun g => n9 _ (by rw [e, hfk, if_pos (by omega)]), fun g => n9 _ (by rw [e, hfk, if_neg (by omega)]; omega)⟩

theorem c90_l {fs : List fr} {I S : IT} {cc : Nat → Option Nat} {n c z : Nat} {out : oP} (R : RD I S) (h40 : 0 ≤ S 27 0 30 ∧ S 27 0 30 ≤ 40) {s : Int} {f : Nat → Int} (h01 : ∀ k, f k = 0 ∨ f k = 1) (hf : ∀ k : Nat, (k : Int) < S 27 0 30 → f k = if ¬ S 58 0 k = 0 then 1 else 0) (h : Rf (Sum.inl (some (vi (cnt f (S 27 0 30).toNat)))) fs I (Cs cc) n c z out) : ∀ d k : Nat, k + d = (S 27 0 30).toNat → Rn 90 4 [some (vr 21 0), some (vi (cnt f k)), some (vi (k : Int))] [] fs I (Cs cc) n c z out := by
  obtain ⟨r1, r2, r3, r4⟩ := R
  intro d
  induction d with
  | zero =>
    intro k hk
    refine k90_4 ⟨fun h1 => by omega, fun h1 => ?_⟩
    rw [show k = (S 27 0 30).toNat by omega]; exact h
  | succ d ih =>
    intro k hk
    have nx := ih (k + 1) (by omega)
    have hc := cnt_in h01 k
    have hfk := hf k (by omega)
    have e : cnt f (k + 1) = cnt f k + f k := rfl
    have n9 : ∀ w, w = cnt f (k + 1) → Rn 90 4 [some (vr 21 0), some (vi w), some (vi ((k + 1 : Nat) : Int))] [] fs I (Cs cc) n c z out := fun w hw => by rw [hw]; exact nx
    have d2 := ((r4 k (by omega)).2.1 (by omega)).2.2.2.2.2.2.2
    refine k90_4 ⟨fun h1 => ?_, fun h1 => by omega⟩
    rw [Int.toNat_natCast, wrI (x := cnt f k + 1) (by omega) (by omega), wrI (x := (k : Int) + 1) (by omega) (by omega), nS]
    refine ⟨by omega, fun g => n9 _ (by rw [e, hfk, if_neg (by omega)]; omega), fun g => n9 _ (by rw [e, hfk, if_pos (by omega)])⟩

theorem cl_count {fs : List fr} {I : IT} {cc : Nat → Option Nat} {n c z : Nat} {out : oP} (F : FI I cc) {a : Int} (h : CR I (OP (coT a) (Zq I) I) (OV (coT a) (coV I a)) fs I n c z out) : Rn 158 0 [some (vr 0 0), some (vi a), some (vr 59 0), none] [] fs I (Cs cc) n c z out := by
  have N := VI_num F.2
  obtain ⟨e1, e0⟩ := CRo F h
  have e0 := fun q => CRq F (e0 q) agN_thr up3_eq
  obtain ⟨m1, m2, m3, m4, m5⟩ := F.1
  refine k158_0 ⟨fun g0 => ?_, fun g0 => ⟨fun g1 => ?_, fun g1 => ⟨fun g2 => ?_, fun g2 => ⟨fun g3 => ?_, fun g3 => ⟨fun g4 => ?_, fun g4 => ⟨fun g5 => ?_, fun g5 => ⟨fun g6 => ?_, fun g6 => ⟨fun g7 => ?_, fun g7 => ⟨fun g8 => ?_, fun g8 => ?_⟩⟩⟩⟩⟩⟩⟩⟩⟩
  · subst g0; exact e0 (by decide) _ m3.1
  · subst g1; exact e0 (by decide) _ m3.2.1
  · subst g2
    have q := e0 (by decide)
    refine k132_0 (c132_l (s := 0) (f := cf I 2) m4 (by omega) cf_in (fun k hk => ?_) ?_ (I 27 0 14).toNat 0 (by omega))
    · unfold cf pc1 pc2 pc3
      (repeat' split) <;> omega
    · refine Rf.sm (pc2 := 75) rfl (k22_75 (Rf.sm (pc2 := 7) rfl (k158_7 (q _ ?_))))
      rw [show coV I 2 = cnt (cf I 2) 40 from rfl]
      exact (cnt_stop (fun k hk => by
        unfold cf pc1 pc2 pc3
        (repeat' split) <;> omega) 40 (by omega)).symm
  · subst g3
    have q := e0 (by decide)
    refine k131_0 (c131_l (f := cf I 3) m4 (by omega) cf_in (fun k hk => ?_) ?_ (I 27 0 18).toNat 0 (by omega))
    · unfold cf pc1 pc2 pc3
      (repeat' split) <;> omega
    · refine Rf.sm (pc2 := 84) rfl (k22_84 (Rf.sm (pc2 := 7) rfl (k158_7 (q _ ?_))))
      rw [show coV I 3 = cnt (cf I 3) 40 from rfl]
      exact (cnt_stop (fun k hk => by
        unfold cf pc1 pc2 pc3
        (repeat' split) <;> omega) 40 (by omega)).symm
  · subst g4
    have q := e0 (by decide)
    refine k131_0 (c131_l (f := cf I 4) m4 (by omega) cf_in (fun k hk => ?_) ?_ (I 27 0 18).toNat 0 (by omega))
    · unfold cf pc1 pc2 pc3
      (repeat' split) <;> omega
    · refine Rf.sm (pc2 := 93) rfl (k22_93 (Rf.sm (pc2 := 7) rfl (k158_7 (q _ ?_))))
      rw [show coV I 4 = cnt (cf I 4) 40 from rfl]
      exact (cnt_stop (fun k hk => by
        unfold cf pc1 pc2 pc3
        (repeat' split) <;> omega) 40 (by omega)).symm
  · subst g5
    have q := e0 (by decide)
    refine k131_0 (c131_l (f := cf I 5) m4 (by omega) cf_in (fun k hk => ?_) ?_ (I 27 0 18).toNat 0 (by omega))
    · unfold cf pc1 pc2 pc3
      (repeat' split) <;> omega
    · refine Rf.sm (pc2 := 102) rfl (k22_102 (Rf.sm (pc2 := 7) rfl (k158_7 (q _ ?_))))
      rw [show coV I 5 = cnt (cf I 5) 40 from rfl]
      exact (cnt_stop (fun k hk => by
        unfold cf pc1 pc2 pc3
        (repeat' split) <;> omega) 40 (by omega)).symm
  · subst g6
    have q := e0 (by decide)
    refine k89_0 (c89_l (f := cf I 6) m5 (by omega) cf_in (fun k hk => ?_) ?_ (I 27 0 30).toNat 0 (by omega))
    · unfold cf pc1 pc2 pc3
      (repeat' split) <;> omega
    · refine Rf.sm (pc2 := 111) rfl (k22_111 (Rf.sm (pc2 := 7) rfl (k158_7 (q _ ?_))))
      rw [show coV I 6 = cnt (cf I 6) 40 from rfl]
      exact (cnt_stop (fun k hk => by
        unfold cf pc1 pc2 pc3
        (repeat' split) <;> omega) 40 (by omega)).symm
  · subst g7
    have q := e0 (by decide)
    refine k89_0 (c89_l (f := cf I 7) m5 (by omega) cf_in (fun k hk => ?_) ?_ (I 27 0 30).toNat 0 (by omega))
    · unfold cf pc1 pc2 pc3
      (repeat' split) <;> omega
    · refine Rf.sm (pc2 := 120) rfl (k22_120 (Rf.sm (pc2 := 7) rfl (k158_7 (q _ ?_))))
      rw [show coV I 7 = cnt (cf I 7) 40 from rfl]
      exact (cnt_stop (fun k hk => by
        unfold cf pc1 pc2 pc3
        (repeat' split) <;> omega) 40 (by omega)).symm
  · subst g8
    have q := e0 (by decide)
    refine k90_0 (c90_l (s := 0) (f := cf I 8) m5 (by omega) cf_in (fun k hk => ?_) ?_ (I 27 0 30).toNat 0 (by omega))
    · unfold cf pc1 pc2 pc3
      (repeat' split) <;> omega
    · refine Rf.sm (pc2 := 128) rfl (k22_128 (Rf.sm (pc2 := 7) rfl (k158_7 (q _ ?_))))
      rw [show coV I 8 = cnt (cf I 8) 40 from rfl]
      exact (cnt_stop (fun k hk => by
        unfold cf pc1 pc2 pc3
        (repeat' split) <;> omega) 40 (by omega)).symm
  · exact e1 1 (by omega) (if_neg (by omega))


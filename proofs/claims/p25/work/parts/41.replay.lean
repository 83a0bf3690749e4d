theorem k161_0 {fs : List fr} {I : IT} {cc : Nat → Option Nat} {n c z : Nat} {out : oP} {s : Nat} {v : Int} (h : Rn 161 5 [some (vr 15 s), some (vi v), some (vi 0), some (vi 30)] [] (fs) I (Cs cc) n c z out) : Rn 161 0 [some (vr 15 s), some (vi v), none, none] [] (fs) I (Cs cc) n c z out :=
  (Rn.iconst (pc2 := 1) rfl rfl (Rn.istore_n (pc2 := 2) (ls2 := [some (vr 15 s), some (vi v), some (vi 0), none]) rfl rfl rfl (Rn.aload_n (pc2 := 3) rfl rfl rfl (Rn.alen (pc2 := 4) (L := 30) rfl rfl rfl rfl rfl rfl (Rn.istore_n (pc2 := 5) (ls2 := [some (vr 15 s), some (vi v), some (vi 0), some (vi 30)]) rfl rfl rfl h)))))

theorem k161_5 {fs : List fr} {I : IT} {cc : Nat → Option Nat} {n c z : Nat} {out : oP} {s : Nat} {v : Int} {l : Int} {i : Int} (h : ((l < i) → ((0 ≤ l ∧ l < 30) ∧ (Rn 161 5 [some (vr 15 s), some (vi v), some (vi (wr (l + 1))), some (vi i)] [] (fs) (up3 I 15 s (Int.toNat l) v) (Cs cc) n c z out))) ∧ (¬ (l < i) → (Rf (Sum.inl none) fs I (Cs cc) n c z out))) : Rn 161 5 [some (vr 15 s), some (vi v), some (vi l), some (vi i)] [] (fs) I (Cs cc) n c z out :=
  (Rn.iload_n (pc2 := 6) rfl rfl rfl (Rn.iload_n (pc2 := 7) rfl rfl rfl (Rn.ic_ge (pc2 := 10) rfl rfl (fun q18 => (Rn.aload_n (pc2 := 11) rfl rfl rfl (Rn.iload_n (pc2 := 12) rfl rfl rfl (Rn.iload_n (pc2 := 13) rfl rfl rfl (Rn.iast (pc2 := 14) (L := 30) rfl rfl rfl (h.1 q18).1 rfl (Rn.iinc (pc2 := 17) (ls2 := [some (vr 15 s), some (vi v), some (vi (wr (l + 1))), some (vi i)]) rfl rfl rfl rfl (Rn.goto rfl (h.1 q18).2))))))) (fun q18 => (Rn.vret rfl (h.2 q18))))))

theorem k103_0 {fs : List fr} {I : IT} {cc : Nat → Option Nat} {n c z : Nat} {out : oP} {name : Int} {num : Int} (h : Rn 103 2 [some (vr 3 0), some (vi name), some (vi num), some (vi 0), none] [] (fs) I (Cs cc) n c z out) : Rn 103 0 [some (vr 3 0), some (vi name), some (vi num), none, none] [] (fs) I (Cs cc) n c z out :=
  (Rn.iconst (pc2 := 1) rfl rfl (Rn.istore_n (pc2 := 2) (ls2 := [some (vr 3 0), some (vi name), some (vi num), some (vi 0), none]) rfl rfl rfl h))

theorem k103_2 {fs : List fr} {I : IT} {cc : Nat → Option Nat} {n c z : Nat} {out : oP} {name : Int} {num : Int} {i : Int} {x : Option av} (h : ((i < (I 3 0 0)) → ((0 ≤ i ∧ i < 12) ∧ (Rn 161 0 [some (vr 15 (12 * 1 + (Int.toNat i))), some (vi (-1)), none, none] [] ((73, 10, [some (vr 14 (12 * 1 + (Int.toNat i)))], []) :: (103, 16, [some (vr 3 0), some (vi name), some (vi num), some (vi i), x], []) :: fs) (up3 I 14 (12 * 1 + (Int.toNat i)) 0 (-1)) (Cs cc) n c z out))) ∧ (¬ (i < (I 3 0 0)) → (Rn 103 27 [some (vr 3 0), some (vi name), some (vi num), some (vi 0), x] [] (fs) I (Cs cc) n c z out))) : Rn 103 2 [some (vr 3 0), some (vi name), some (vi num), some (vi i), x] [] (fs) I (Cs cc) n c z out :=
  (Rn.iload_n (pc2 := 3) rfl rfl rfl (Rn.aload_n (pc2 := 4) rfl rfl rfl (Rn.getI (pc2 := 7) rfl rfl rfl rfl (Rn.ic_ge (pc2 := 10) rfl rfl (fun q19 => (Rn.aload_n (pc2 := 11) rfl rfl rfl (Rn.getR (pc2 := 14) (q := (some (5, 1))) rfl rfl rfl rfl rfl (Rn.iload_n (pc2 := 15) rfl rfl rfl (Rn.aald (pc2 := 16) (L := 12) (q := (some (14, (12 * 1 + (Int.toNat i))))) rfl rfl rfl rfl (h.1 q19).1 rfl rfl (Rn.ivir (as := []) (r := []) (ls2 := [some (vr 14 (12 * 1 + (Int.toNat i)))]) (f := 14) (i := (12 * 1 + (Int.toNat i))) rfl rfl rfl rfl rfl rfl rfl (Rn.aload_n (pc2 := 1) rfl rfl rfl (Rn.iconst (pc2 := 2) rfl rfl (Rn.putI (pc2 := 5) rfl rfl rfl rfl rfl (Rn.aload_n (pc2 := 6) rfl rfl rfl (Rn.getR (pc2 := 9) (q := (some (15, (12 * 1 + (Int.toNat i))))) rfl rfl rfl rfl rfl (Rn.iconst (pc2 := 10) rfl rfl (Rn.ista (as := [vr 15 (12 * 1 + (Int.toNat i)), vi (-1)]) (r := []) (ls2 := [some (vr 15 (12 * 1 + (Int.toNat i))), some (vi (-1)), none, none]) rfl rfl rfl rfl rfl rfl rfl (h.1 q19).2))))))))))))) (fun q19 => (Rn.iconst (pc2 := 26) rfl rfl (Rn.istore_n (pc2 := 27) (ls2 := [some (vr 3 0), some (vi name), some (vi num), some (vi 0), x]) rfl rfl rfl (h.2 q19))))))))

theorem k103_19 {fs : List fr} {I : IT} {cc : Nat → Option Nat} {n c z : Nat} {out : oP} {name : Int} {num : Int} {i : Int} {x : Option av} (h : Rn 103 2 [some (vr 3 0), some (vi name), some (vi num), some (vi (wr (i + 1))), x] [] (fs) I (Cs cc) n c z out) : Rn 103 19 [some (vr 3 0), some (vi name), some (vi num), some (vi i), x] [] (fs) I (Cs cc) n c z out :=
  (Rn.iinc (pc2 := 22) (ls2 := [some (vr 3 0), some (vi name), some (vi num), some (vi (wr (i + 1))), x]) rfl rfl rfl rfl (Rn.goto rfl h))

theorem k103_27 {fs : List fr} {I : IT} {cc : Nat → Option Nat} {n c z : Nat} {out : oP} {name : Int} {num : Int} {i : Int} {x : Option av} (h : ((i < (I 3 0 5)) → ((0 ≤ i ∧ i < 100) ∧ ((((I 7 0 (Int.toNat i)) < 0) → (Rn 103 27 [some (vr 3 0), some (vi name), some (vi num), some (vi (wr (i + 1))), some (vi (I 7 0 (Int.toNat i)))] [] (fs) I (Cs cc) n c z out)) ∧ (¬ ((I 7 0 (Int.toNat i)) < 0) → ((((I 7 0 (Int.toNat i)) < (I 3 0 0)) → ((0 ≤ (I 7 0 (Int.toNat i)) ∧ (I 7 0 (Int.toNat i)) < 12) ∧ ((((I 14 (12 * 1 + (Int.toNat (I 7 0 (Int.toNat i)))) 0) < 0) → (Rn 103 27 [some (vr 3 0), some (vi name), some (vi num), some (vi (wr (i + 1))), some (vi (I 7 0 (Int.toNat i)))] [] (fs) (up3 I 14 (12 * 1 + (Int.toNat (I 7 0 (Int.toNat i)))) 0 (I 8 0 (Int.toNat i))) (Cs cc) n c z out)) ∧ (¬ ((I 14 (12 * 1 + (Int.toNat (I 7 0 (Int.toNat i)))) 0) < 0) → ((((I 14 (12 * 1 + (Int.toNat (I 7 0 (Int.toNat i)))) 0) < 30) → ((0 ≤ (I 14 (12 * 1 + (Int.toNat (I 7 0 (Int.toNat i)))) 0) ∧ (I 14 (12 * 1 + (Int.toNat (I 7 0 (Int.toNat i)))) 0) < 30) ∧ (Rn 103 27 [some (vr 3 0), some (vi name), some (vi num), some (vi (wr (i + 1))), some (vi (I 7 0 (Int.toNat i)))] [] (fs) (up3 (up3 I 15 (12 * 1 + (Int.toNat (I 7 0 (Int.toNat i)))) (Int.toNat (I 14 (12 * 1 + (Int.toNat (I 7 0 (Int.toNat i)))) 0)) (I 9 0 (Int.toNat i))) 14 (12 * 1 + (Int.toNat (I 7 0 (Int.toNat i)))) 0 (I 8 0 (Int.toNat i))) (Cs cc) n c z out))) ∧ (¬ ((I 14 (12 * 1 + (Int.toNat (I 7 0 (Int.toNat i)))) 0) < 30) → (Rn 103 27 [some (vr 3 0), some (vi name), some (vi num), some (vi (wr (i + 1))), some (vi (I 7 0 (Int.toNat i)))] [] (fs) (up3 I 14 (12 * 1 + (Int.toNat (I 7 0 (Int.toNat i)))) 0 (I 8 0 (Int.toNat i))) (Cs cc) n c z out))))))) ∧ (¬ ((I 7 0 (Int.toNat i)) < (I 3 0 0)) → (Rn 103 27 [some (vr 3 0), some (vi name), some (vi num), some (vi (wr (i + 1))), some (vi (I 7 0 (Int.toNat i)))] [] (fs) I (Cs cc) n c z out))))))) ∧ (¬ (i < (I 3 0 5)) → (Rn 105 0 [some (vr 3 0), some (vr 5 1), some (vi name), some (vi num), none, none] [] ((103, 90, [some (vr 3 0), some (vi name), some (vi num), some (vi i), x], []) :: fs) I (Cs cc) n c z out))) : Rn 103 27 [some (vr 3 0), some (vi name), some (vi num), some (vi i), x] [] (fs) I (Cs cc) n c z out :=
  (Rn.iload_n (pc2 := 28) rfl rfl rfl (Rn.aload_n (pc2 := 29) rfl rfl rfl (Rn.getI (pc2 := 32) rfl rfl rfl rfl (Rn.ic_ge (pc2 := 35) rfl rfl (fun q20 => (Rn.aload_n (pc2 := 36) rfl rfl rfl (Rn.getR (pc2 := 39) (q := (some (7, 0))) rfl rfl rfl rfl rfl (Rn.iload_n (pc2 := 40) rfl rfl rfl (Rn.iald (pc2 := 41) (L := 100) rfl rfl rfl (h.1 q20).1 rfl (Rn.istore (pc2 := 43) (ls2 := [some (vr 3 0), some (vi name), some (vi num), some (vi i), some (vi (I 7 0 (Int.toNat i)))]) rfl rfl rfl (Rn.iload (pc2 := 45) rfl rfl rfl (Rn.aload_n (pc2 := 46) rfl rfl rfl (Rn.getI (pc2 := 49) rfl rfl rfl rfl (Rn.ista (as := [vi (I 7 0 (Int.toNat i)), vi (I 3 0 0)]) (r := []) (ls2 := [some (vi (I 7 0 (Int.toNat i))), some (vi (I 3 0 0))]) rfl rfl rfl rfl rfl rfl rfl (Rn.iload_n (pc2 := 1) rfl rfl rfl (Rn.iz_lt (pc2 := 4) rfl rfl (fun q21 => (Rn.iconst (pc2 := 14) rfl rfl (Rn.zret rfl rfl (by decide) (Rf.sm (pc2 := 52) rfl (Rn.iz_eq (pc2 := 55) rfl rfl (fun _ =>  (Rn.iinc (pc2 := 80) (ls2 := [some (vr 3 0), some (vi name), some (vi num), some (vi (wr (i + 1))), some (vi (I 7 0 (Int.toNat i)))]) rfl rfl rfl rfl (Rn.goto rfl ((h.1 q20).2.1 q21)))) (fun q => absurd (show ((0 : Int) = 0) by decide) q)))))) (fun q21 => (Rn.iload_n (pc2 := 5) rfl rfl rfl (Rn.iload_n (pc2 := 6) rfl rfl rfl (Rn.ic_ge (pc2 := 9) rfl rfl (fun q22 => (Rn.iconst (pc2 := 10) rfl rfl (Rn.goto rfl (Rn.zret rfl rfl (by decide) (Rf.sm (pc2 := 52) rfl (Rn.iz_eq (pc2 := 55) rfl rfl (fun q => absurd q (show (¬ ((1 : Int) = 0)) by decide)) (fun _ =>  (Rn.aload_n (pc2 := 56) rfl rfl rfl (Rn.getR (pc2 := 59) (q := (some (5, 1))) rfl rfl rfl rfl rfl (Rn.iload (pc2 := 61) rfl rfl rfl (Rn.aald (pc2 := 62) (L := 12) (q := (some (14, (12 * 1 + (Int.toNat (I 7 0 (Int.toNat i))))))) rfl rfl rfl rfl (((h.1 q20).2.2 q21).1 q22).1 rfl rfl (Rn.aload_n (pc2 := 63) rfl rfl rfl (Rn.getR (pc2 := 66) (q := (some (8, 0))) rfl rfl rfl rfl rfl (Rn.iload_n (pc2 := 67) rfl rfl rfl (Rn.iald (pc2 := 68) (L := 100) rfl rfl rfl (h.1 q20).1 rfl (Rn.aload_n (pc2 := 69) rfl rfl rfl (Rn.getR (pc2 := 72) (q := (some (9, 0))) rfl rfl rfl rfl rfl (Rn.iload_n (pc2 := 73) rfl rfl rfl (Rn.iald (pc2 := 74) (L := 100) rfl rfl rfl (h.1 q20).1 rfl (Rn.ivir (as := [vi (I 8 0 (Int.toNat i)), vi (I 9 0 (Int.toNat i))]) (r := []) (ls2 := [some (vr 14 (12 * 1 + (Int.toNat (I 7 0 (Int.toNat i))))), some (vi (I 8 0 (Int.toNat i))), some (vi (I 9 0 (Int.toNat i)))]) (f := 14) (i := (12 * 1 + (Int.toNat (I 7 0 (Int.toNat i))))) rfl rfl rfl rfl rfl rfl rfl (Rn.aload_n (pc2 := 1) rfl rfl rfl (Rn.getI (pc2 := 4) rfl rfl rfl rfl (Rn.bipush (pc2 := 6) rfl rfl (Rn.ista (as := [vi (I 14 (12 * 1 + (Int.toNat (I 7 0 (Int.toNat i)))) 0), vi 30]) (r := []) (ls2 := [some (vi (I 14 (12 * 1 + (Int.toNat (I 7 0 (Int.toNat i)))) 0)), some (vi 30)]) rfl rfl rfl rfl rfl rfl rfl (Rn.iload_n (pc2 := 1) rfl rfl rfl (Rn.iz_lt (pc2 := 4) rfl rfl (fun q23 => (Rn.iconst (pc2 := 14) rfl rfl (Rn.zret rfl rfl (by decide) (Rf.sm (pc2 := 9) rfl (Rn.iz_eq (pc2 := 12) rfl rfl (fun _ =>  (Rn.aload_n (pc2 := 23) rfl rfl rfl (Rn.iload_n (pc2 := 24) rfl rfl rfl (Rn.putI (pc2 := 27) rfl rfl rfl rfl rfl (Rn.vret rfl (Rf.nn (pc2 := 77) rfl (Rn.iinc (pc2 := 80) (ls2 := [some (vr 3 0), some (vi name), some (vi num), some (vi (wr (i + 1))), some (vi (I 7 0 (Int.toNat i)))]) rfl rfl rfl rfl (Rn.goto rfl ((((h.1 q20).2.2 q21).1 q22).2.1 q23))))))))) (fun q => absurd (show ((0 : Int) = 0) by decide) q)))))) (fun q23 => (Rn.iload_n (pc2 := 5) rfl rfl rfl (Rn.iload_n (pc2 := 6) rfl rfl rfl (Rn.ic_ge (pc2 := 9) rfl rfl (fun q24 => (Rn.iconst (pc2 := 10) rfl rfl (Rn.goto rfl (Rn.zret rfl rfl (by decide) (Rf.sm (pc2 := 9) rfl (Rn.iz_eq (pc2 := 12) rfl rfl (fun q => absurd q (show (¬ ((1 : Int) = 0)) by decide)) (fun _ =>  (Rn.aload_n (pc2 := 13) rfl rfl rfl (Rn.getR (pc2 := 16) (q := (some (15, (12 * 1 + (Int.toNat (I 7 0 (Int.toNat i))))))) rfl rfl rfl rfl rfl (Rn.aload_n (pc2 := 17) rfl rfl rfl (Rn.getI (pc2 := 20) rfl rfl rfl rfl (Rn.iload_n (pc2 := 21) rfl rfl rfl (Rn.iast (pc2 := 22) (L := 30) rfl rfl rfl (((((h.1 q20).2.2 q21).1 q22).2.2 q23).1 q24).1 rfl (Rn.aload_n (pc2 := 23) rfl rfl rfl (Rn.iload_n (pc2 := 24) rfl rfl rfl (Rn.putI (pc2 := 27) rfl rfl rfl rfl rfl (Rn.vret rfl (Rf.nn (pc2 := 77) rfl (Rn.iinc (pc2 := 80) (ls2 := [some (vr 3 0), some (vi name), some (vi num), some (vi (wr (i + 1))), some (vi (I 7 0 (Int.toNat i)))]) rfl rfl rfl rfl (Rn.goto rfl (((((h.1 q20).2.2 q21).1 q22).2.2 q23).1 q24).2)))))))))))))))))))) (fun q24 => (Rn.iconst (pc2 := 14) rfl rfl (Rn.zret rfl rfl (by decide) (Rf.sm (pc2 := 9) rfl (Rn.iz_eq (pc2 := 12) rfl rfl (fun _ =>  (Rn.aload_n (pc2 := 23) rfl rfl rfl (Rn.iload_n (pc2 := 24) rfl rfl rfl (Rn.putI (pc2 := 27) rfl rfl rfl rfl rfl (Rn.vret rfl (Rf.nn (pc2 := 77) rfl (Rn.iinc (pc2 := 80) (ls2 := [some (vr 3 0), some (vi name), some (vi num), some (vi (wr (i + 1))), some (vi (I 7 0 (Int.toNat i)))]) rfl rfl rfl rfl (Rn.goto rfl (((((h.1 q20).2.2 q21).1 q22).2.2 q23).2 q24))))))))) (fun q => absurd (show ((0 : Int) = 0) by decide) q)))))))))))))))))))))))))))))))))))) (fun q22 => (Rn.iconst (pc2 := 14) rfl rfl (Rn.zret rfl rfl (by decide) (Rf.sm (pc2 := 52) rfl (Rn.iz_eq (pc2 := 55) rfl rfl (fun _ =>  (Rn.iinc (pc2 := 80) (ls2 := [some (vr 3 0), some (vi name), some (vi num), some (vi (wr (i + 1))), some (vi (I 7 0 (Int.toNat i)))]) rfl rfl rfl rfl (Rn.goto rfl (((h.1 q20).2.2 q21).2 q22)))) (fun q => absurd (show ((0 : Int) = 0) by decide) q)))))))))))))))))))))) (fun q20 => (Rn.aload_n (pc2 := 84) rfl rfl rfl (Rn.aload_n (pc2 := 85) rfl rfl rfl (Rn.getR (pc2 := 88) (q := (some (5, 1))) rfl rfl rfl rfl rfl (Rn.iload_n (pc2 := 89) rfl rfl rfl (Rn.iload_n (pc2 := 90) rfl rfl rfl (Rn.ivir (as := [vr 5 1, vi name, vi num]) (r := []) (ls2 := [some (vr 3 0), some (vr 5 1), some (vi name), some (vi num), none, none]) (f := 3) (i := 0) rfl rfl rfl rfl rfl rfl rfl (h.2 q20))))))))))))

theorem k103_93 {fs : List fr} {I : IT} {cc : Nat → Option Nat} {n c z : Nat} {out : oP} {name : Int} {num : Int} {i : Int} {x : Option av} {v : Int} (h : ((v = (-1)) → (Rn 106 0 [some (vr 3 0), some (vr 5 1), some (vi name), some (vi num), none, none, none, none] [] ((103, 106, [some (vr 3 0), some (vi name), some (vi num), some (vi v), x], []) :: fs) I (Cs cc) n c z out)) ∧ (¬ (v = (-1)) → (Rf (Sum.inl (some (vi v))) fs I (Cs cc) n c z out))) : Rn 103 93 [some (vr 3 0), some (vi name), some (vi num), some (vi i), x] [vi v] (fs) I (Cs cc) n c z out :=
  (Rn.istore_n (pc2 := 94) (ls2 := [some (vr 3 0), some (vi name), some (vi num), some (vi v), x]) rfl rfl rfl (Rn.iload_n (pc2 := 95) rfl rfl rfl (Rn.iconst (pc2 := 96) rfl rfl (Rn.ic_ne (pc2 := 99) rfl rfl (fun q25 => (Rn.aload_n (pc2 := 100) rfl rfl rfl (Rn.aload_n (pc2 := 101) rfl rfl rfl (Rn.getR (pc2 := 104) (q := (some (5, 1))) rfl rfl rfl rfl rfl (Rn.iload_n (pc2 := 105) rfl rfl rfl (Rn.iload_n (pc2 := 106) rfl rfl rfl (Rn.ivir (as := [vr 5 1, vi name, vi num]) (r := []) (ls2 := [some (vr 3 0), some (vr 5 1), some (vi name), some (vi num), none, none, none, none]) (f := 3) (i := 0) rfl rfl rfl rfl rfl rfl rfl (h.1 q25)))))))) (fun q25 => (Rn.iload_n (pc2 := 113) rfl rfl rfl (Rn.iret rfl rfl (h.2 q25))))))))

theorem k103_109 {fs : List fr} {I : IT} {cc : Nat → Option Nat} {n c z : Nat} {out : oP} {name : Int} {num : Int} {i : Int} {x : Option av} {v : Int} (h : Rf (Sum.inl (some (vi v))) fs I (Cs cc) n c z out) : Rn 103 109 [some (vr 3 0), some (vi name), some (vi num), some (vi i), x] [vi v] (fs) I (Cs cc) n c z out :=
  (Rn.goto rfl (Rn.iret rfl rfl h))

theorem k73_13 {fs : List fr} {I : IT} {cc : Nat → Option Nat} {n c z : Nat} {out : oP} {s : Nat} (h : Rf (Sum.inl none) fs I (Cs cc) n c z out) : Rn 73 13 [some (vr 14 s)] [] (fs) I (Cs cc) n c z out :=
  (Rn.vret rfl h)

def fl15 (I : IT) (s : Nat) (v : Int) (k : Nat) : IT := fun f i j => if f = 15 ∧ i = s ∧ j < k then v else I f i j
theorem fl15_up {I : IT} {s k : Nat} {v : Int} : up3 (fl15 I s v k) 15 s k v = fl15 I s v (k + 1) := by
  funext f i j
  by_cases g : f = 15 ∧ i = s ∧ j = k
  · obtain ⟨rfl, rfl, rfl⟩ := g
    rw [up3_eq]
    exact (if_pos ⟨rfl, rfl, by omega⟩).symm
  · rw [up3_no g]
    show (if _ then _ else _) = (if _ then _ else _)
    by_cases q : f = 15 ∧ i = s ∧ j < k
    · rw [if_pos q, if_pos ⟨q.1, q.2.1, by omega⟩]
    · rw [if_neg q, if_neg (fun y => q ⟨y.1, y.2.1, by
        have : ¬ j = k := fun w => g ⟨y.1, y.2.1, w⟩
        omega⟩)]
theorem c_fill_l {fs : List fr} {I : IT} {cc : Nat → Option Nat} {n c z : Nat} {out : oP} {s : Nat} {v : Int} (h : Rf (Sum.inl none) fs (fl15 I s v 30) (Cs cc) n c z out) : ∀ d k : Nat, k + d = 30 → Rn 161 5 [some (vr 15 s), some (vi v), some (vi (k : Int)), some (vi 30)] [] fs (fl15 I s v k) (Cs cc) n c z out := by
  intro d
  induction d with
  | zero =>
    intro k hk
    refine k161_5 ⟨fun h1 => by omega, fun h1 => ?_⟩
    rw [show k = 30 by omega]; exact h
  | succ d ih =>
    intro k hk
    have nx := ih (k + 1) (by omega)
    refine k161_5 ⟨fun h1 => ⟨by omega, ?_⟩, fun h1 => by omega⟩
    rw [Int.toNat_natCast, wrI (by omega) (by omega), nS, fl15_up]; exact nx
theorem c_fill {fs : List fr} {I : IT} {cc : Nat → Option Nat} {n c z : Nat} {out : oP} {s : Nat} {v : Int} (h : Rf (Sum.inl none) fs (fl15 I s v 30) (Cs cc) n c z out) : Rn 161 0 [some (vr 15 s), some (vi v), none, none] [] fs I (Cs cc) n c z out := by
  refine k161_0 ?_
  have := c_fill_l h 30 0 (by omega)
  rw [show fl15 I s v 0 = I from by
    funext f i j
    exact if_neg (fun q => by omega)] at this
  exact this
def bl1 (I : IT) (k : Nat) : Prop := ∀ s : Nat, s < k → I 14 (12 * 1 + s) 0 = -1 ∧ ∀ x : Nat, x < 30 → I 15 (12 * 1 + s) x = -1
def frp (I I2 : IT) : Prop := ∀ f i j, ¬ ((f = 14 ∨ f = 15) ∧ 12 ≤ i) → I2 f i j = I f i j
theorem c_rep1 {fs : List fr} {cc : Nat → Option Nat} {n c z : Nat} {out : oP} {name num : Int} {P : Nat} (hP : P ≤ 12) {I0 : IT} (h : ∀ I x, bl1 I P → frp I0 I → Rn 103 27 [some (vr 3 0), some (vi name), some (vi num), some (vi 0), x] [] fs I (Cs cc) n c z out) : ∀ (d k : Nat) (I : IT) (x : Option av), k + d = P → I 3 0 0 = (P : Int) → bl1 I k → frp I0 I → Rn 103 2 [some (vr 3 0), some (vi name), some (vi num), some (vi (k : Int)), x] [] fs I (Cs cc) n c z out := by
  intro d
  induction d with
  | zero =>
    intro k I x hk h3 hb hf
    exact k103_2 ⟨fun h1 => by omega, fun h1 => h I x (by rw [← show k = P by omega]; exact hb) hf⟩
  | succ d ih =>
    intro k I x hk h3 hb hf
    refine k103_2 ⟨fun h1 => ⟨by omega, ?_⟩, fun h1 => by omega⟩
    rw [Int.toNat_natCast]
    refine c_fill (Rf.nn (pc2 := 13) rfl (k73_13 (Rf.nn (pc2 := 19) rfl (k103_19 ?_))))
    rw [wrI (by omega) (by omega), nS]
    have e : ∀ f i j, ¬ ((f = 14 ∨ f = 15) ∧ i = 12 * 1 + k) → fl15 (up3 I 14 (12 * 1 + k) 0 (-1)) (12 * 1 + k) (-1) 30 f i j = I f i j := fun f i j q => by
      rw [show fl15 (up3 I 14 (12 * 1 + k) 0 (-1)) (12 * 1 + k) (-1) 30 f i j = up3 I 14 (12 * 1 + k) 0 (-1) f i j from if_neg (fun y => q ⟨Or.inr y.1, y.2.1⟩), up3_no (fun y => q ⟨Or.inl y.1, y.2.1⟩)]
    refine ih (k + 1) _ x (by omega) (by rw [e 3 0 0 (by omega)]; exact h3) (fun s hs => ?_) (fun f i j q => (e f i j (fun y => q ⟨y.1, by omega⟩)).trans (hf f i j q))
    by_cases g : s = k
    · subst g
      refine ⟨?_, fun y hy => if_pos ⟨rfl, rfl, hy⟩⟩
      rw [show fl15 (up3 I 14 (12 * 1 + s) 0 (-1)) (12 * 1 + s) (-1) 30 14 (12 * 1 + s) 0 = up3 I 14 (12 * 1 + s) 0 (-1) 14 (12 * 1 + s) 0 from if_neg (fun y => by omega), up3_eq]
    · rw [e 14 (12 * 1 + s) 0 (by omega)]
      refine ⟨(hb s (by omega)).1, fun y hy => ?_⟩
      rw [e 15 (12 * 1 + s) y (by omega)]; exact (hb s (by omega)).2 y hy
def rpl (I S : IT) (k : Nat) : Prop := ∀ s : Nat, (s : Int) < S 27 0 4 → I 14 (12 * 1 + s) 0 = bn S s k ∧ ∀ x : Nat, x < 30 → I 15 (12 * 1 + s) x = rz I S s (x : Int) k
theorem rz_I {I I2 S : IT} {s : Nat} {x : Int} (h : ∀ i j, I2 9 i j = I 9 i j) : ∀ k, rz I2 S s x k = rz I S s x k := by
  intro k
  induction k with
  | zero => rfl
  | succ k ih => unfold rz; rw [ih, h]
theorem bn_succ {S : IT} {s k : Nat} : bn S s (k + 1) = if S 33 0 k = (s : Int) then S 34 0 k else bn S s k := by
  unfold bn
  by_cases g : S 33 0 k = (s : Int)
  · rw [show li S s (k + 1) = (k : Int) from if_pos g, if_neg (by omega), if_pos g, Int.toNat_natCast]
  · rw [show li S s (k + 1) = li S s k from if_neg g, if_neg g]
theorem c_rep2 {fs : List fr} {S : IT} {cc : Nat → Option Nat} {n c z : Nat} {out : oP} {name num T : Int} (W : VN S T) {I0 : IT} (hN : RN I0 S) (h3 : I0 3 0 0 = S 27 0 4) (h5 : I0 3 0 5 = S 27 0 9) (h : ∀ I i x, rpl I S (nn S) → frp I0 I → Rn 105 0 [some (vr 3 0), some (vr 5 1), some (vi name), some (vi num), none, none] [] ((103, 90, [some (vr 3 0), some (vi name), some (vi num), some (vi i), x], []) :: fs) I (Cs cc) n c z out) : ∀ (d k : Nat) (I : IT) (x : Option av), k + d = nn S → rpl I S k → frp I0 I → Rn 103 27 [some (vr 3 0), some (vi name), some (vi num), some (vi (k : Int)), x] [] fs I (Cs cc) n c z out := by
  obtain ⟨w1, w2, w3, w4, w5⟩ := W
  have hnn : ((nn S : Nat) : Int) = S 27 0 9 := by show (((S 27 0 9).toNat : Nat) : Int) = _; omega
  intro d
  induction d with
  | zero =>
    intro k I x hk hr hf
    have e5 : I 3 0 5 = S 27 0 9 := (hf 3 0 5 (by omega)).trans h5
    refine k103_27 ⟨fun h1 => by omega, fun h1 => h I _ x (by rw [← show k = nn S by omega]; exact hr) hf⟩
  | succ d ih =>
    intro k I x hk hr hf
    have hk9 : (k : Int) < S 27 0 9 := by omega
    have e5 : I 3 0 5 = S 27 0 9 := (hf 3 0 5 (by omega)).trans h5
    have e3 : I 3 0 0 = S 27 0 4 := (hf 3 0 0 (by omega)).trans h3
    obtain ⟨n1, n2, n3, n4, _⟩ := w5 k hk9
    obtain ⟨q7, q8⟩ := hN.1 k hk9
    have e7 : I 7 0 k = S 33 0 k := (hf 7 0 k (by omega)).trans q7
    have e8 : I 8 0 k = S 34 0 k := (hf 8 0 k (by omega)).trans q8
    have hs : (((S 33 0 k).toNat : Nat) : Int) < S 27 0 4 := by omega
    obtain ⟨b1, b2⟩ := hr (S 33 0 k).toNat hs
    have hb := bn_in ⟨w1, w2, w3, w4, w5⟩ (S 33 0 k).toNat k (by omega)
    have nx : ∀ I2 x2, (∀ f i j : Nat, ¬ (f = 14 ∧ i = 12 * 1 + (S 33 0 k).toNat ∧ j = 0) → ¬ (f = 15 ∧ i = 12 * 1 + (S 33 0 k).toNat ∧ (j : Int) = bn S (S 33 0 k).toNat k) → I2 f i j = I f i j) → I2 14 (12 * 1 + (S 33 0 k).toNat) 0 = S 34 0 k → (0 ≤ bn S (S 33 0 k).toNat k → I2 15 (12 * 1 + (S 33 0 k).toNat) (bn S (S 33 0 k).toNat k).toNat = I 9 0 k) → Rn 103 27 [some (vr 3 0), some (vi name), some (vi num), some (vi ((k + 1 : Nat) : Int)), x2] [] fs I2 (Cs cc) n c z out := by
      intro I2 x2 hI g1 g2
      refine ih (k + 1) I2 x2 (by omega) (fun s hs2 => ?_) (fun f i j q => (hI f i j (fun y => q ⟨Or.inl y.1, by omega⟩) (fun y => q ⟨Or.inr y.1, by omega⟩)).trans (hf f i j q))
      obtain ⟨c1, c2⟩ := hr s hs2
      rw [bn_succ]
      by_cases g : S 33 0 k = (s : Int)
      · have es : (S 33 0 k).toNat = s := by omega
        rw [es] at hI g1 g2
        refine ⟨by rw [g1, if_pos g], fun y hy => ?_⟩
        rw [rz_I (I := I) (fun i j => hI 9 i j (by omega) (by omega))]
        show _ = if _ then _ else _
        by_cases r : bn S s k = (y : Int)
        · rw [if_pos ⟨g, r⟩, ← g2 (by omega), show (bn S s k).toNat = y by omega]
        · rw [if_neg (fun w => r w.2), hI 15 _ y (by omega) (by omega)]; exact c2 y hy
      · have g9 : ¬ s = (S 33 0 k).toNat := by omega
        rw [if_neg g, hI 14 _ 0 (by omega) (by omega)]
        refine ⟨c1, fun y hy => ?_⟩
        rw [rz_I (I := I) (fun i j => hI 9 i j (by omega) (by omega)), hI 15 _ y (by omega) (by omega)]
        show _ = if _ then _ else _
        rw [if_neg (fun w => g w.1)]; exact c2 y hy
    refine k103_27 ⟨fun h1 => ?_, fun h1 => by omega⟩
    rw [Int.toNat_natCast, e7, e8, e3, b1, wrI (by omega) (by omega), nS]
    refine ⟨by omega, fun _ => by omega, fun _ => ⟨fun _ => ⟨by omega, fun r1 => ?_, fun r1 => ⟨fun r2 => ⟨by omega, ?_⟩, fun r2 => by omega⟩⟩, fun _ => by omega⟩⟩
    · refine nx _ _ (fun f i j y1 y2 => up3_no y1) up3_eq (fun y => by omega)
    · refine nx _ _ (fun f i j y1 y2 => ?_) up3_eq (fun y => ?_)
      · rw [up3_no y1, up3_no (fun y => y2 ⟨y.1, y.2.1, by omega⟩)]
      · rw [up3_nf (by decide), up3_eq]
theorem c_anew {fs : List fr} {I S : IT} {cc : Nat → Option Nat} {n c z : Nat} {out : oP} {p T : Int} (D : DR I S p T) {name num : Int} (hn0 : 0 ≤ name) (hn1 : name < 30) (h : ∀ I2, frp I I2 → Rf (Sum.inl (some (vi (ld S name num)))) fs I2 (Cs cc) n c z out) : Rn 103 0 [some (vr 3 0), some (vi name), some (vi num), none, none] [] fs I (Cs cc) n c z out := by
  obtain ⟨D1, D2, D3, D4, D5, D6, D7, D8⟩ := D
  obtain ⟨w1, w2, w3, w4, w5⟩ := D7
  refine k103_0 (c_rep1 (P := (S 27 0 4).toNat) (by omega) (I0 := I) (fun I1 x hb hf => ?_) (S 27 0 4).toNat 0 I none (by omega) (by omega) (fun s hs => by omega) (fun _ _ _ _ => rfl))
  refine c_rep2 (T := T) ⟨w1, w2, w3, w4, w5⟩ D8 D1 D2 (fun I2 i x2 hr hf2 => ?_) (nn S) 0 I1 x (by omega) (fun s hs => ⟨(hb s (by omega)).1, fun y hy => (hb s (by omega)).2 y hy⟩) hf
  have RB : RBs 1 I2 S := fun s hs => ⟨(hr s hs).1, fun y hy => by
    rw [(hr s hs).2 y hy, rz_I (I := I) (fun i j => hf2 9 i j (by omega))]
    exact D8.2 s (by omega) y hy⟩
  have G2 : RG I2 S := fun y hy => (hf2 6 0 y (by omega)).trans (D4 y hy)
  have S2 : RS I2 S := fun s hs => ⟨(hf2 10 s 0 (by omega)).trans (D5 s hs).1, fun j hj => by
    rw [hf2 11 s j (by omega), hf2 12 s j (by omega), hf2 13 s j (by omega)]; exact (D5 s hs).2 j hj⟩
  have r0 : I2 3 0 0 = S 27 0 4 := (hf2 3 0 0 (by omega)).trans D1
  have hx := h I2 hf2
  refine c_bearer RB (by omega) G2 S2 D6 ⟨w1, w2, w3, w4, w5⟩ r0 hn0 hn1 (Rf.sm (pc2 := 93) rfl (k103_93 ⟨fun g => ?_, fun g => ?_⟩))
  · refine c_former RB (by omega) G2 S2 D6 ⟨w1, w2, w3, w4, w5⟩ r0 hn0 hn1 (Rf.sm (pc2 := 109) rfl (k103_109 ?_))
    rw [show ld S name num = _ from if_pos g] at hx; exact hx
  · rw [show ld S name num = _ from if_neg g] at hx; exact hx


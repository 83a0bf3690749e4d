theorem zf2_0 {fs : List fr} {I : IT} {C : CT} {n c z : Nat} {out : oP} {v : Int} (h : Rn 161 5 [some (vr 2 0), some (vi v), some (vi 0), some (vi 144)] [] (fs) I C n c z out) : Rn 161 0 [some (vr 2 0), some (vi v), none, none] [] (fs) I C n c z out :=
  (Rn.iconst (pc2 := 1) rfl rfl (Rn.istore_n (pc2 := 2) (ls2 := [some (vr 2 0), some (vi v), some (vi 0), none]) rfl rfl rfl (Rn.aload_n (pc2 := 3) rfl rfl rfl (Rn.alen (pc2 := 4) (L := 144) rfl rfl rfl rfl rfl rfl (Rn.istore_n (pc2 := 5) (ls2 := [some (vr 2 0), some (vi v), some (vi 0), some (vi 144)]) rfl rfl rfl h)))))

theorem zf2_5 {fs : List fr} {I : IT} {C : CT} {n c z : Nat} {out : oP} {v : Int} {k : Int} {l : Int} (h : ((k < l) → ((0 ≤ k ∧ k < 144) ∧ (Rn 161 5 [some (vr 2 0), some (vi v), some (vi (wr (k + 1))), some (vi l)] [] (fs) (up3 I 2 0 (Int.toNat k) v) C n c z out))) ∧ (¬ (k < l) → (Rf (Sum.inl none) fs I C n c z out))) : Rn 161 5 [some (vr 2 0), some (vi v), some (vi k), some (vi l)] [] (fs) I C n c z out :=
  (Rn.iload_n (pc2 := 6) rfl rfl rfl (Rn.iload_n (pc2 := 7) rfl rfl rfl (Rn.ic_ge (pc2 := 10) rfl rfl (fun q18 => (Rn.aload_n (pc2 := 11) rfl rfl rfl (Rn.iload_n (pc2 := 12) rfl rfl rfl (Rn.iload_n (pc2 := 13) rfl rfl rfl (Rn.iast (pc2 := 14) (L := 144) rfl rfl rfl (h.1 q18).1 rfl (Rn.iinc (pc2 := 17) (ls2 := [some (vr 2 0), some (vi v), some (vi (wr (k + 1))), some (vi l)]) rfl rfl rfl rfl (Rn.goto rfl (h.1 q18).2))))))) (fun q18 => (Rn.vret rfl (h.2 q18))))))

theorem zf15_0 {fs : List fr} {I : IT} {C : CT} {n c z : Nat} {out : oP} {s : Nat} {v : Int} (h : Rn 161 5 [some (vr 15 s), some (vi v), some (vi 0), some (vi 30)] [] (fs) I C n c z out) : Rn 161 0 [some (vr 15 s), some (vi v), none, none] [] (fs) I C n c z out :=
  (Rn.iconst (pc2 := 1) rfl rfl (Rn.istore_n (pc2 := 2) (ls2 := [some (vr 15 s), some (vi v), some (vi 0), none]) rfl rfl rfl (Rn.aload_n (pc2 := 3) rfl rfl rfl (Rn.alen (pc2 := 4) (L := 30) rfl rfl rfl rfl rfl rfl (Rn.istore_n (pc2 := 5) (ls2 := [some (vr 15 s), some (vi v), some (vi 0), some (vi 30)]) rfl rfl rfl h)))))

theorem zf15_5 {fs : List fr} {I : IT} {C : CT} {n c z : Nat} {out : oP} {s : Nat} {v : Int} {k : Int} {l : Int} (h : ((k < l) → ((0 ≤ k ∧ k < 30) ∧ (Rn 161 5 [some (vr 15 s), some (vi v), some (vi (wr (k + 1))), some (vi l)] [] (fs) (up3 I 15 s (Int.toNat k) v) C n c z out))) ∧ (¬ (k < l) → (Rf (Sum.inl none) fs I C n c z out))) : Rn 161 5 [some (vr 15 s), some (vi v), some (vi k), some (vi l)] [] (fs) I C n c z out :=
  (Rn.iload_n (pc2 := 6) rfl rfl rfl (Rn.iload_n (pc2 := 7) rfl rfl rfl (Rn.ic_ge (pc2 := 10) rfl rfl (fun q19 => (Rn.aload_n (pc2 := 11) rfl rfl rfl (Rn.iload_n (pc2 := 12) rfl rfl rfl (Rn.iload_n (pc2 := 13) rfl rfl rfl (Rn.iast (pc2 := 14) (L := 30) rfl rfl rfl (h.1 q19).1 rfl (Rn.iinc (pc2 := 17) (ls2 := [some (vr 15 s), some (vi v), some (vi (wr (k + 1))), some (vi l)]) rfl rfl rfl rfl (Rn.goto rfl (h.1 q19).2))))))) (fun q19 => (Rn.vret rfl (h.2 q19))))))

theorem z159_0 {fs : List fr} {I : IT} {C : CT} {c z : Nat} {out : oP}  (h : Rn 161 0 [some (vr 2 0), some (vi (-1)), none, none] [] ((113, 18, [some (vr 1 0)], []) :: (0, 9, [some (vr 0 0)], [vr 1 0, vr 0 0]) :: (159, 4, [some (vr 99 0), none, none, none, none, none, none], [vr 0 0]) :: fs) I (up3 C 1 0 2 (some (2, 0))) 3 (((c + 1) + 1) + 1) (((z + 5) + 3) + Int.toNat 144) out) : Rn 159 0 [some (vr 99 0), none, none, none, none, none, none] [] (fs) I C 0 c z out :=
  (Rn.new (pc2 := 3) (f := 0) (i := 0) (n2 := 1) (L := 5) rfl rfl rfl rfl rfl rfl rfl (Rn.dupR (pc2 := 4) rfl rfl (Rn.ispe (as := []) (r := [vr 0 0]) (ls2 := [some (vr 0 0)]) (f := 0) (i := 0) rfl rfl rfl rfl rfl rfl rfl rfl (Rn.aload_n (pc2 := 1) rfl rfl rfl (Rn.oinit (pc2 := 4) rfl rfl rfl rfl (Rn.aload_n (pc2 := 5) rfl rfl rfl (Rn.new (pc2 := 8) (f := 1) (i := 0) (n2 := 2) (L := 3) rfl rfl rfl rfl rfl rfl rfl (Rn.dupR (pc2 := 9) rfl rfl (Rn.ispe (as := []) (r := [vr 1 0, vr 0 0]) (ls2 := [some (vr 1 0)]) (f := 1) (i := 0) rfl rfl rfl rfl rfl rfl rfl rfl (Rn.aload_n (pc2 := 1) rfl rfl rfl (Rn.oinit (pc2 := 4) rfl rfl rfl rfl (Rn.aload_n (pc2 := 5) rfl rfl rfl (Rn.sipush (pc2 := 8) rfl rfl (Rn.newa (pc2 := 10) (f := 2) (i := 0) (n2 := 3) rfl rfl rfl rfl rfl rfl (Rn.putR (pc2 := 13) rfl rfl rfl rfl (Rn.aload_n (pc2 := 14) rfl rfl rfl (Rn.getR (pc2 := 17) (q := (some (2, 0))) rfl rfl rfl up3_eq rfl (Rn.iconst (pc2 := 18) rfl rfl (Rn.ista (as := [vr 2 0, vi (-1)]) (r := []) (ls2 := [some (vr 2 0), some (vi (-1)), none, none]) rfl rfl rfl rfl rfl rfl rfl h)))))))))))))))))))

theorem z113_21 {fs : List fr} {I : IT} {C : CT} {c z : Nat} {out : oP}  (h : Rn 91 65 [some (vr 3 0), some (vi 0)] [] ((0, 20, [some (vr 0 0)], [vr 3 0, vr 0 0]) :: (159, 4, [some (vr 99 0), none, none, none, none, none, none], [vr 0 0]) :: fs) I (up3 (up3 (up3 (up3 (up3 (up3 (up3 (up3 C 0 0 0 (some (1, 0))) 3 0 1 (some (4, 0))) 3 0 2 (some (5, 0))) 3 0 3 (some (5, 1))) 3 0 4 (some (6, 0))) 3 0 6 (some (7, 0))) 3 0 7 (some (8, 0))) 3 0 8 (some (9, 0))) 11 ((((((((c + 1) + 1) + 1) + 1) + 1) + 1) + 1) + 1) ((((((((z + 9) + Int.toNat 12) + Int.toNat 12) + Int.toNat 12) + Int.toNat 30) + Int.toNat 100) + Int.toNat 100) + Int.toNat 100) out) : Rn 113 21 [some (vr 1 0)] [] ((0, 9, [some (vr 0 0)], [vr 1 0, vr 0 0]) :: (159, 4, [some (vr 99 0), none, none, none, none, none, none], [vr 0 0]) :: fs) I C 3 c z out :=
  (Rn.vret rfl (Rf.nn (pc2 := 12) rfl (Rn.putR (pc2 := 15) rfl rfl rfl rfl (Rn.aload_n (pc2 := 16) rfl rfl rfl (Rn.new (pc2 := 19) (f := 3) (i := 0) (n2 := 4) (L := 9) rfl rfl rfl rfl rfl rfl rfl (Rn.dupR (pc2 := 20) rfl rfl (Rn.ispe (as := []) (r := [vr 3 0, vr 0 0]) (ls2 := [some (vr 3 0), none]) (f := 3) (i := 0) rfl rfl rfl rfl rfl rfl rfl rfl (Rn.aload_n (pc2 := 1) rfl rfl rfl (Rn.oinit (pc2 := 4) rfl rfl rfl rfl (Rn.aload_n (pc2 := 5) rfl rfl rfl (Rn.bipush (pc2 := 7) rfl rfl (Rn.anew (pc2 := 10) (f := 4) (i := 0) (n2 := 5) rfl rfl rfl rfl rfl rfl (Rn.putR (pc2 := 13) rfl rfl rfl rfl (Rn.aload_n (pc2 := 14) rfl rfl rfl (Rn.bipush (pc2 := 16) rfl rfl (Rn.anew (pc2 := 19) (f := 5) (i := 0) (n2 := 6) rfl rfl rfl rfl rfl rfl (Rn.putR (pc2 := 22) rfl rfl rfl rfl (Rn.aload_n (pc2 := 23) rfl rfl rfl (Rn.bipush (pc2 := 25) rfl rfl (Rn.anew (pc2 := 28) (f := 5) (i := 1) (n2 := 7) rfl rfl rfl rfl rfl rfl (Rn.putR (pc2 := 31) rfl rfl rfl rfl (Rn.aload_n (pc2 := 32) rfl rfl rfl (Rn.bipush (pc2 := 34) rfl rfl (Rn.newa (pc2 := 36) (f := 6) (i := 0) (n2 := 8) rfl rfl rfl rfl rfl rfl (Rn.putR (pc2 := 39) rfl rfl rfl rfl (Rn.aload_n (pc2 := 40) rfl rfl rfl (Rn.bipush (pc2 := 42) rfl rfl (Rn.newa (pc2 := 44) (f := 7) (i := 0) (n2 := 9) rfl rfl rfl rfl rfl rfl (Rn.putR (pc2 := 47) rfl rfl rfl rfl (Rn.aload_n (pc2 := 48) rfl rfl rfl (Rn.bipush (pc2 := 50) rfl rfl (Rn.newa (pc2 := 52) (f := 8) (i := 0) (n2 := 10) rfl rfl rfl rfl rfl rfl (Rn.putR (pc2 := 55) rfl rfl rfl rfl (Rn.aload_n (pc2 := 56) rfl rfl rfl (Rn.bipush (pc2 := 58) rfl rfl (Rn.newa (pc2 := 60) (f := 9) (i := 0) (n2 := 11) rfl rfl rfl rfl rfl rfl (Rn.putR (pc2 := 63) rfl rfl rfl rfl (Rn.iconst (pc2 := 64) rfl rfl (Rn.istore_n (pc2 := 65) (ls2 := [some (vr 3 0), some (vi 0)]) rfl rfl rfl h)))))))))))))))))))))))))))))))))))))))

theorem z91_65 {fs : List fr} {I : IT} {C : CT} {n c z : Nat} {out : oP} {i : Int} {s : Nat} (hC0 : C 3 0 1 = (some (4, 0))) (hC1 : C 3 0 2 = (some (5, 0))) (hn0 : idOf n = (10, s)) (hn1 : idOf (n + 1) = (11, s)) (hn2 : idOf ((n + 1) + 1) = (12, s)) (hn3 : idOf (((n + 1) + 1) + 1) = (13, s)) (hn4 : idOf ((((n + 1) + 1) + 1) + 1) = (14, s)) (hn5 : idOf (((((n + 1) + 1) + 1) + 1) + 1) = (15, s)) (h : ((i < 12) → ((0 ≤ i ∧ i < 12) ∧ (Rn 161 0 [some (vr 15 s), some (vi (-1)), none, none] [] ((72, 22, [some (vr 14 s)], []) :: (91, 93, [some (vr 3 0), some (vi i)], [vr 14 s, vi i, vr 5 0]) :: fs) (up3 I 14 s 0 (-1)) (up3 (up3 (up3 (up3 (up3 C 10 s 1 (some (11, s))) 10 s 2 (some (12, s))) 10 s 3 (some (13, s))) 4 0 (Int.toNat i) (some (10, s))) 14 s 1 (some (15, s))) ((((((n + 1) + 1) + 1) + 1) + 1) + 1) ((((((c + 1) + 1) + 1) + 1) + 1) + 1) ((((((z + 4) + Int.toNat 4) + Int.toNat 4) + Int.toNat 4) + 2) + Int.toNat 30) out))) ∧ (¬ (i < 12) → (Rn 91 118 [some (vr 3 0), some (vi 0)] [] (fs) I C n c z out))) : Rn 91 65 [some (vr 3 0), some (vi i)] [] (fs) I C n c z out :=
  (Rn.iload_n (pc2 := 66) rfl rfl rfl (Rn.bipush (pc2 := 68) rfl rfl (Rn.ic_ge (pc2 := 71) rfl rfl (fun q20 => (Rn.aload_n (pc2 := 72) rfl rfl rfl (Rn.getR (pc2 := 75) (q := (some (4, 0))) rfl rfl rfl hC0 rfl (Rn.iload_n (pc2 := 76) rfl rfl rfl (Rn.new (pc2 := 79) (f := 10) (i := s) (n2 := (n + 1)) (L := 4) rfl rfl hn0 rfl rfl rfl rfl (Rn.dupR (pc2 := 80) rfl rfl (Rn.ispe (as := []) (r := [vr 10 s, vi i, vr 4 0]) (ls2 := [some (vr 10 s)]) (f := 10) (i := s) rfl rfl rfl rfl rfl rfl rfl rfl (Rn.aload_n (pc2 := 1) rfl rfl rfl (Rn.oinit (pc2 := 4) rfl rfl rfl rfl (Rn.aload_n (pc2 := 5) rfl rfl rfl (Rn.iconst (pc2 := 6) rfl rfl (Rn.newa (pc2 := 8) (f := 11) (i := s) (n2 := ((n + 1) + 1)) rfl hn1 rfl rfl rfl rfl (Rn.putR (pc2 := 11) rfl rfl rfl rfl (Rn.aload_n (pc2 := 12) rfl rfl rfl (Rn.iconst (pc2 := 13) rfl rfl (Rn.newa (pc2 := 15) (f := 12) (i := s) (n2 := (((n + 1) + 1) + 1)) rfl hn2 rfl rfl rfl rfl (Rn.putR (pc2 := 18) rfl rfl rfl rfl (Rn.aload_n (pc2 := 19) rfl rfl rfl (Rn.iconst (pc2 := 20) rfl rfl (Rn.newa (pc2 := 22) (f := 13) (i := s) (n2 := ((((n + 1) + 1) + 1) + 1)) rfl hn3 rfl rfl rfl rfl (Rn.putR (pc2 := 25) rfl rfl rfl rfl (Rn.vret rfl (Rf.nn (pc2 := 83) rfl (Rn.aast (pc2 := 84) (L := 12) rfl rfl rfl rfl (h.1 q20).1 rfl (Rn.aload_n (pc2 := 85) rfl rfl rfl (Rn.getR (pc2 := 88) (q := (some (5, 0))) rfl rfl rfl hC1 rfl (Rn.iload_n (pc2 := 89) rfl rfl rfl (Rn.new (pc2 := 92) (f := 14) (i := s) (n2 := (((((n + 1) + 1) + 1) + 1) + 1)) (L := 2) rfl rfl hn4 rfl rfl rfl rfl (Rn.dupR (pc2 := 93) rfl rfl (Rn.ispe (as := []) (r := [vr 14 s, vi i, vr 5 0]) (ls2 := [some (vr 14 s)]) (f := 14) (i := s) rfl rfl rfl rfl rfl rfl rfl rfl (Rn.aload_n (pc2 := 1) rfl rfl rfl (Rn.oinit (pc2 := 4) rfl rfl rfl rfl (Rn.aload_n (pc2 := 5) rfl rfl rfl (Rn.iconst (pc2 := 6) rfl rfl (Rn.putI (pc2 := 9) rfl rfl rfl rfl rfl (Rn.aload_n (pc2 := 10) rfl rfl rfl (Rn.bipush (pc2 := 12) rfl rfl (Rn.newa (pc2 := 14) (f := 15) (i := s) (n2 := ((((((n + 1) + 1) + 1) + 1) + 1) + 1)) rfl hn5 rfl rfl rfl rfl (Rn.putR (pc2 := 17) rfl rfl rfl rfl (Rn.aload_n (pc2 := 18) rfl rfl rfl (Rn.getR (pc2 := 21) (q := (some (15, s))) rfl rfl rfl up3_eq rfl (Rn.iconst (pc2 := 22) rfl rfl (Rn.ista (as := [vr 15 s, vi (-1)]) (r := []) (ls2 := [some (vr 15 s), some (vi (-1)), none, none]) rfl rfl rfl rfl rfl rfl rfl (h.1 q20).2))))))))))))))))))))))))))))))))))))))))))) (fun q20 => (Rn.iconst (pc2 := 117) rfl rfl (Rn.istore_n (pc2 := 118) (ls2 := [some (vr 3 0), some (vi 0)]) rfl rfl rfl (h.2 q20)))))))

theorem z72_25a {fs : List fr} {I : IT} {C : CT} {n c z : Nat} {out : oP} {s : Nat} {i : Int} {t : Nat} (hC0 : C 3 0 3 = (some (5, 1))) (hn0 : idOf n = (14, t)) (hn1 : idOf (n + 1) = (15, t)) (h : (0 ≤ i ∧ i < 12) ∧ (Rn 161 0 [some (vr 15 t), some (vi (-1)), none, none] [] ((72, 22, [some (vr 14 t)], []) :: (91, 106, [some (vr 3 0), some (vi i)], [vr 14 t, vi i, vr 5 1]) :: fs) (up3 I 14 t 0 (-1)) (up3 (up3 C 5 0 (Int.toNat i) (some (14, s))) 14 t 1 (some (15, t))) ((n + 1) + 1) ((c + 1) + 1) ((z + 2) + Int.toNat 30) out)) : Rn 72 25 [some (vr 14 s)] [] ((91, 93, [some (vr 3 0), some (vi i)], [vr 14 s, vi i, vr 5 0]) :: fs) I C n c z out :=
  (Rn.vret rfl (Rf.nn (pc2 := 96) rfl (Rn.aast (pc2 := 97) (L := 12) rfl rfl rfl rfl h.1 rfl (Rn.aload_n (pc2 := 98) rfl rfl rfl (Rn.getR (pc2 := 101) (q := (some (5, 1))) rfl rfl rfl hC0 rfl (Rn.iload_n (pc2 := 102) rfl rfl rfl (Rn.new (pc2 := 105) (f := 14) (i := t) (n2 := (n + 1)) (L := 2) rfl rfl hn0 rfl rfl rfl rfl (Rn.dupR (pc2 := 106) rfl rfl (Rn.ispe (as := []) (r := [vr 14 t, vi i, vr 5 1]) (ls2 := [some (vr 14 t)]) (f := 14) (i := t) rfl rfl rfl rfl rfl rfl rfl rfl (Rn.aload_n (pc2 := 1) rfl rfl rfl (Rn.oinit (pc2 := 4) rfl rfl rfl rfl (Rn.aload_n (pc2 := 5) rfl rfl rfl (Rn.iconst (pc2 := 6) rfl rfl (Rn.putI (pc2 := 9) rfl rfl rfl rfl rfl (Rn.aload_n (pc2 := 10) rfl rfl rfl (Rn.bipush (pc2 := 12) rfl rfl (Rn.newa (pc2 := 14) (f := 15) (i := t) (n2 := ((n + 1) + 1)) rfl hn1 rfl rfl rfl rfl (Rn.putR (pc2 := 17) rfl rfl rfl rfl (Rn.aload_n (pc2 := 18) rfl rfl rfl (Rn.getR (pc2 := 21) (q := (some (15, t))) rfl rfl rfl up3_eq rfl (Rn.iconst (pc2 := 22) rfl rfl (Rn.ista (as := [vr 15 t, vi (-1)]) (r := []) (ls2 := [some (vr 15 t), some (vi (-1)), none, none]) rfl rfl rfl rfl rfl rfl rfl h.2))))))))))))))))))))))

theorem z72_25b {fs : List fr} {I : IT} {C : CT} {n c z : Nat} {out : oP} {t : Nat} {i : Int} (h : (0 ≤ i ∧ i < 12) ∧ (Rn 91 65 [some (vr 3 0), some (vi (wr (i + 1)))] [] (fs) I (up3 C 5 1 (Int.toNat i) (some (14, t))) n c z out)) : Rn 72 25 [some (vr 14 t)] [] ((91, 106, [some (vr 3 0), some (vi i)], [vr 14 t, vi i, vr 5 1]) :: fs) I C n c z out :=
  (Rn.vret rfl (Rf.nn (pc2 := 109) rfl (Rn.aast (pc2 := 110) (L := 12) rfl rfl rfl rfl h.1 rfl (Rn.iinc (pc2 := 113) (ls2 := [some (vr 3 0), some (vi (wr (i + 1)))]) rfl rfl rfl rfl (Rn.goto rfl h.2)))))

theorem z91_118 {fs : List fr} {I : IT} {C : CT} {n c z : Nat} {out : oP} {k : Int} (hC0 : C 3 0 4 = (some (6, 0))) (h : ((k < 30) → ((0 ≤ k ∧ k < 30) ∧ (Rn 91 118 [some (vr 3 0), some (vi (wr (k + 1)))] [] (fs) (up3 I 6 0 (Int.toNat k) k) C n c z out))) ∧ (¬ (k < 30) → (Rf (Sum.inl none) fs I C n c z out))) : Rn 91 118 [some (vr 3 0), some (vi k)] [] (fs) I C n c z out :=
  (Rn.iload_n (pc2 := 119) rfl rfl rfl (Rn.bipush (pc2 := 121) rfl rfl (Rn.ic_ge (pc2 := 124) rfl rfl (fun q21 => (Rn.aload_n (pc2 := 125) rfl rfl rfl (Rn.getR (pc2 := 128) (q := (some (6, 0))) rfl rfl rfl hC0 rfl (Rn.iload_n (pc2 := 129) rfl rfl rfl (Rn.iload_n (pc2 := 130) rfl rfl rfl (Rn.iast (pc2 := 131) (L := 30) rfl rfl rfl (h.1 q21).1 rfl (Rn.iinc (pc2 := 134) (ls2 := [some (vr 3 0), some (vi (wr (k + 1)))]) rfl rfl rfl rfl (Rn.goto rfl (h.1 q21).2)))))))) (fun q21 => (Rn.vret rfl (h.2 q21))))))

theorem z0_23 {fs : List fr} {I : IT} {C : CT} {c z : Nat} {out : oP}  (h : Rn 119 24 [some (vr 16 0), some (vi 0)] [] ((0, 31, [some (vr 0 0)], [vr 16 0, vr 0 0]) :: (159, 4, [some (vr 99 0), none, none, none, none, none, none], [vr 0 0]) :: fs) I (up3 (up3 (up3 C 0 0 1 (some (3, 0))) 16 0 2 (some (17, 0))) 16 0 3 (some (18, 0))) 110 (((c + 1) + 1) + 1) (((z + 4) + Int.toNat 6) + Int.toNat 40) out) : Rn 0 23 [some (vr 0 0)] [vr 3 0, vr 0 0] ((159, 4, [some (vr 99 0), none, none, none, none, none, none], [vr 0 0]) :: fs) I C 107 c z out :=
  (Rn.putR (pc2 := 26) rfl rfl rfl rfl (Rn.aload_n (pc2 := 27) rfl rfl rfl (Rn.new (pc2 := 30) (f := 16) (i := 0) (n2 := 108) (L := 4) rfl rfl rfl rfl rfl rfl rfl (Rn.dupR (pc2 := 31) rfl rfl (Rn.ispe (as := []) (r := [vr 16 0, vr 0 0]) (ls2 := [some (vr 16 0), none]) (f := 16) (i := 0) rfl rfl rfl rfl rfl rfl rfl rfl (Rn.aload_n (pc2 := 1) rfl rfl rfl (Rn.oinit (pc2 := 4) rfl rfl rfl rfl (Rn.aload_n (pc2 := 5) rfl rfl rfl (Rn.bipush (pc2 := 7) rfl rfl (Rn.anew (pc2 := 10) (f := 17) (i := 0) (n2 := 109) rfl rfl rfl rfl rfl rfl (Rn.putR (pc2 := 13) rfl rfl rfl rfl (Rn.aload_n (pc2 := 14) rfl rfl rfl (Rn.bipush (pc2 := 16) rfl rfl (Rn.anew (pc2 := 19) (f := 18) (i := 0) (n2 := 110) rfl rfl rfl rfl rfl rfl (Rn.putR (pc2 := 22) rfl rfl rfl rfl (Rn.iconst (pc2 := 23) rfl rfl (Rn.istore_n (pc2 := 24) (ls2 := [some (vr 16 0), some (vi 0)]) rfl rfl rfl h)))))))))))))))))

theorem z119_24 {fs : List fr} {I : IT} {C : CT} {n c z : Nat} {out : oP} {i : Int} {s : Nat} (hC0 : C 16 0 2 = (some (17, 0))) (hn0 : idOf n = (19, s)) (h : ((i < 6) → ((0 ≤ i ∧ i < 6) ∧ (Rn 119 24 [some (vr 16 0), some (vi (wr (i + 1)))] [] (fs) I (up3 C 17 0 (Int.toNat i) (some (19, s))) (n + 1) (c + 1) (z + 3) out))) ∧ (¬ (i < 6) → (Rn 119 51 [some (vr 16 0), some (vi 0)] [] (fs) I C n c z out))) : Rn 119 24 [some (vr 16 0), some (vi i)] [] (fs) I C n c z out :=
  (Rn.iload_n (pc2 := 25) rfl rfl rfl (Rn.bipush (pc2 := 27) rfl rfl (Rn.ic_ge (pc2 := 30) rfl rfl (fun q22 => (Rn.aload_n (pc2 := 31) rfl rfl rfl (Rn.getR (pc2 := 34) (q := (some (17, 0))) rfl rfl rfl hC0 rfl (Rn.iload_n (pc2 := 35) rfl rfl rfl (Rn.new (pc2 := 38) (f := 19) (i := s) (n2 := (n + 1)) (L := 3) rfl rfl hn0 rfl rfl rfl rfl (Rn.dupR (pc2 := 39) rfl rfl (Rn.ispe (as := []) (r := [vr 19 s, vi i, vr 17 0]) (ls2 := [some (vr 19 s)]) (f := 19) (i := s) rfl rfl rfl rfl rfl rfl rfl rfl (Rn.aload_n (pc2 := 1) rfl rfl rfl (Rn.oinit (pc2 := 4) rfl rfl rfl rfl (Rn.vret rfl (Rf.nn (pc2 := 42) rfl (Rn.aast (pc2 := 43) (L := 6) rfl rfl rfl rfl (h.1 q22).1 rfl (Rn.iinc (pc2 := 46) (ls2 := [some (vr 16 0), some (vi (wr (i + 1)))]) rfl rfl rfl rfl (Rn.goto rfl (h.1 q22).2)))))))))))))) (fun q22 => (Rn.iconst (pc2 := 50) rfl rfl (Rn.istore_n (pc2 := 51) (ls2 := [some (vr 16 0), some (vi 0)]) rfl rfl rfl (h.2 q22)))))))

theorem z119_51 {fs : List fr} {I : IT} {C : CT} {n c z : Nat} {out : oP} {i : Int} {s : Nat} (hC0 : C 16 0 3 = (some (18, 0))) (hn0 : idOf n = (20, s)) (h : ((i < 40) → ((0 ≤ i ∧ i < 40) ∧ (Rn 119 51 [some (vr 16 0), some (vi (wr (i + 1)))] [] (fs) (up3 (up3 (up3 (up3 I 20 s 3 (-1)) 20 s 4 (-1)) 20 s 5 (-1)) 20 s 6 (-1)) (up3 C 18 0 (Int.toNat i) (some (20, s))) (n + 1) (c + 1) (z + 8) out))) ∧ (¬ (i < 40) → (Rf (Sum.inl none) fs I C n c z out))) : Rn 119 51 [some (vr 16 0), some (vi i)] [] (fs) I C n c z out :=
  (Rn.iload_n (pc2 := 52) rfl rfl rfl (Rn.bipush (pc2 := 54) rfl rfl (Rn.ic_ge (pc2 := 57) rfl rfl (fun q23 => (Rn.aload_n (pc2 := 58) rfl rfl rfl (Rn.getR (pc2 := 61) (q := (some (18, 0))) rfl rfl rfl hC0 rfl (Rn.iload_n (pc2 := 62) rfl rfl rfl (Rn.new (pc2 := 65) (f := 20) (i := s) (n2 := (n + 1)) (L := 8) rfl rfl hn0 rfl rfl rfl rfl (Rn.dupR (pc2 := 66) rfl rfl (Rn.ispe (as := []) (r := [vr 20 s, vi i, vr 18 0]) (ls2 := [some (vr 20 s)]) (f := 20) (i := s) rfl rfl rfl rfl rfl rfl rfl rfl (Rn.aload_n (pc2 := 1) rfl rfl rfl (Rn.oinit (pc2 := 4) rfl rfl rfl rfl (Rn.aload_n (pc2 := 5) rfl rfl rfl (Rn.iconst (pc2 := 6) rfl rfl (Rn.putI (pc2 := 9) rfl rfl rfl rfl rfl (Rn.aload_n (pc2 := 10) rfl rfl rfl (Rn.iconst (pc2 := 11) rfl rfl (Rn.putI (pc2 := 14) rfl rfl rfl rfl rfl (Rn.aload_n (pc2 := 15) rfl rfl rfl (Rn.iconst (pc2 := 16) rfl rfl (Rn.putI (pc2 := 19) rfl rfl rfl rfl rfl (Rn.aload_n (pc2 := 20) rfl rfl rfl (Rn.iconst (pc2 := 21) rfl rfl (Rn.putI (pc2 := 24) rfl rfl rfl rfl rfl (Rn.vret rfl (Rf.nn (pc2 := 69) rfl (Rn.aast (pc2 := 70) (L := 40) rfl rfl rfl rfl (h.1 q23).1 rfl (Rn.iinc (pc2 := 73) (ls2 := [some (vr 16 0), some (vi (wr (i + 1)))]) rfl rfl rfl rfl (Rn.goto rfl (h.1 q23).2)))))))))))))))))))))))))) (fun q23 => (Rn.vret rfl (h.2 q23))))))

theorem z0_34 {fs : List fr} {I : IT} {C : CT} {c z : Nat} {out : oP}  (h : Rn 77 24 [some (vr 21 0), some (vi 0)] [] ((0, 42, [some (vr 0 0)], [vr 21 0, vr 0 0]) :: (159, 4, [some (vr 99 0), none, none, none, none, none, none], [vr 0 0]) :: fs) I (up3 (up3 (up3 C 0 0 2 (some (16, 0))) 21 0 2 (some (22, 0))) 21 0 3 (some (23, 0))) 159 (((c + 1) + 1) + 1) (((z + 4) + Int.toNat 6) + Int.toNat 40) out) : Rn 0 34 [some (vr 0 0)] [vr 16 0, vr 0 0] ((159, 4, [some (vr 99 0), none, none, none, none, none, none], [vr 0 0]) :: fs) I C 156 c z out :=
  (Rn.putR (pc2 := 37) rfl rfl rfl rfl (Rn.aload_n (pc2 := 38) rfl rfl rfl (Rn.new (pc2 := 41) (f := 21) (i := 0) (n2 := 157) (L := 4) rfl rfl rfl rfl rfl rfl rfl (Rn.dupR (pc2 := 42) rfl rfl (Rn.ispe (as := []) (r := [vr 21 0, vr 0 0]) (ls2 := [some (vr 21 0), none]) (f := 21) (i := 0) rfl rfl rfl rfl rfl rfl rfl rfl (Rn.aload_n (pc2 := 1) rfl rfl rfl (Rn.oinit (pc2 := 4) rfl rfl rfl rfl (Rn.aload_n (pc2 := 5) rfl rfl rfl (Rn.bipush (pc2 := 7) rfl rfl (Rn.anew (pc2 := 10) (f := 22) (i := 0) (n2 := 158) rfl rfl rfl rfl rfl rfl (Rn.putR (pc2 := 13) rfl rfl rfl rfl (Rn.aload_n (pc2 := 14) rfl rfl rfl (Rn.bipush (pc2 := 16) rfl rfl (Rn.anew (pc2 := 19) (f := 23) (i := 0) (n2 := 159) rfl rfl rfl rfl rfl rfl (Rn.putR (pc2 := 22) rfl rfl rfl rfl (Rn.iconst (pc2 := 23) rfl rfl (Rn.istore_n (pc2 := 24) (ls2 := [some (vr 21 0), some (vi 0)]) rfl rfl rfl h)))))))))))))))))

theorem z77_24 {fs : List fr} {I : IT} {C : CT} {n c z : Nat} {out : oP} {i : Int} {s : Nat} (hC0 : C 21 0 2 = (some (22, 0))) (hn0 : idOf n = (24, s)) (hn1 : idOf (n + 1) = (25, s)) (h : ((i < 6) → ((0 ≤ i ∧ i < 6) ∧ (Rn 77 24 [some (vr 21 0), some (vi (wr (i + 1)))] [] (fs) I (up3 (up3 C 24 s 1 (some (25, s))) 22 0 (Int.toNat i) (some (24, s))) ((n + 1) + 1) ((c + 1) + 1) ((z + 2) + Int.toNat 3) out))) ∧ (¬ (i < 6) → (Rn 77 51 [some (vr 21 0), some (vi 0)] [] (fs) I C n c z out))) : Rn 77 24 [some (vr 21 0), some (vi i)] [] (fs) I C n c z out :=
  (Rn.iload_n (pc2 := 25) rfl rfl rfl (Rn.bipush (pc2 := 27) rfl rfl (Rn.ic_ge (pc2 := 30) rfl rfl (fun q24 => (Rn.aload_n (pc2 := 31) rfl rfl rfl (Rn.getR (pc2 := 34) (q := (some (22, 0))) rfl rfl rfl hC0 rfl (Rn.iload_n (pc2 := 35) rfl rfl rfl (Rn.new (pc2 := 38) (f := 24) (i := s) (n2 := (n + 1)) (L := 2) rfl rfl hn0 rfl rfl rfl rfl (Rn.dupR (pc2 := 39) rfl rfl (Rn.ispe (as := []) (r := [vr 24 s, vi i, vr 22 0]) (ls2 := [some (vr 24 s)]) (f := 24) (i := s) rfl rfl rfl rfl rfl rfl rfl rfl (Rn.aload_n (pc2 := 1) rfl rfl rfl (Rn.oinit (pc2 := 4) rfl rfl rfl rfl (Rn.aload_n (pc2 := 5) rfl rfl rfl (Rn.iconst (pc2 := 6) rfl rfl (Rn.newa (pc2 := 8) (f := 25) (i := s) (n2 := ((n + 1) + 1)) rfl hn1 rfl rfl rfl rfl (Rn.putR (pc2 := 11) rfl rfl rfl rfl (Rn.vret rfl (Rf.nn (pc2 := 42) rfl (Rn.aast (pc2 := 43) (L := 6) rfl rfl rfl rfl (h.1 q24).1 rfl (Rn.iinc (pc2 := 46) (ls2 := [some (vr 21 0), some (vi (wr (i + 1)))]) rfl rfl rfl rfl (Rn.goto rfl (h.1 q24).2)))))))))))))))))) (fun q24 => (Rn.iconst (pc2 := 50) rfl rfl (Rn.istore_n (pc2 := 51) (ls2 := [some (vr 21 0), some (vi 0)]) rfl rfl rfl (h.2 q24)))))))

theorem z77_51 {fs : List fr} {I : IT} {C : CT} {n c z : Nat} {out : oP} {i : Int} {s : Nat} (hC0 : C 21 0 3 = (some (23, 0))) (hn0 : idOf n = (26, s)) (h : ((i < 40) → ((0 ≤ i ∧ i < 40) ∧ (Rn 77 51 [some (vr 21 0), some (vi (wr (i + 1)))] [] (fs) (up3 (up3 I 26 s 5 (-1)) 26 s 6 (-1)) (up3 C 23 0 (Int.toNat i) (some (26, s))) (n + 1) (c + 1) (z + 9) out))) ∧ (¬ (i < 40) → (Rf (Sum.inl none) fs I C n c z out))) : Rn 77 51 [some (vr 21 0), some (vi i)] [] (fs) I C n c z out :=
  (Rn.iload_n (pc2 := 52) rfl rfl rfl (Rn.bipush (pc2 := 54) rfl rfl (Rn.ic_ge (pc2 := 57) rfl rfl (fun q25 => (Rn.aload_n (pc2 := 58) rfl rfl rfl (Rn.getR (pc2 := 61) (q := (some (23, 0))) rfl rfl rfl hC0 rfl (Rn.iload_n (pc2 := 62) rfl rfl rfl (Rn.new (pc2 := 65) (f := 26) (i := s) (n2 := (n + 1)) (L := 9) rfl rfl hn0 rfl rfl rfl rfl (Rn.dupR (pc2 := 66) rfl rfl (Rn.ispe (as := []) (r := [vr 26 s, vi i, vr 23 0]) (ls2 := [some (vr 26 s)]) (f := 26) (i := s) rfl rfl rfl rfl rfl rfl rfl rfl (Rn.aload_n (pc2 := 1) rfl rfl rfl (Rn.oinit (pc2 := 4) rfl rfl rfl rfl (Rn.aload_n (pc2 := 5) rfl rfl rfl (Rn.iconst (pc2 := 6) rfl rfl (Rn.putI (pc2 := 9) rfl rfl rfl rfl rfl (Rn.aload_n (pc2 := 10) rfl rfl rfl (Rn.iconst (pc2 := 11) rfl rfl (Rn.putI (pc2 := 14) rfl rfl rfl rfl rfl (Rn.vret rfl (Rf.nn (pc2 := 69) rfl (Rn.aast (pc2 := 70) (L := 40) rfl rfl rfl rfl (h.1 q25).1 rfl (Rn.iinc (pc2 := 73) (ls2 := [some (vr 21 0), some (vi (wr (i + 1)))]) rfl rfl rfl rfl (Rn.goto rfl (h.1 q25).2)))))))))))))))))))) (fun q25 => (Rn.vret rfl (h.2 q25))))))

theorem z0_45 {fs : List fr} {I : IT} {C : CT} {c z : Nat} {out : oP}  (h : Rn 32 255 [some (vr 27 0), some (vi 0)] [] ((159, 12, [some (vr 99 0), some (vr 0 0), none, none, none, none, none], [vr 27 0]) :: fs) (up3 I 0 0 4 0) (up3 (up3 (up3 (up3 (up3 (up3 (up3 (up3 (up3 (up3 (up3 (up3 (up3 (up3 (up3 (up3 (up3 (up3 (up3 (up3 (up3 (up3 (up3 (up3 (up3 (up3 (up3 (up3 (up3 (up3 (up3 (up3 C 0 0 3 (some (21, 0))) 27 0 3 (some (28, 0))) 27 0 5 (some (29, 0))) 27 0 6 (some (30, 0))) 27 0 7 (some (31, 0))) 27 0 8 (some (32, 0))) 27 0 10 (some (33, 0))) 27 0 11 (some (34, 0))) 27 0 12 (some (35, 0))) 27 0 13 (some (36, 0))) 27 0 15 (some (37, 0))) 27 0 16 (some (38, 0))) 27 0 17 (some (39, 0))) 27 0 19 (some (40, 0))) 27 0 20 (some (41, 0))) 27 0 21 (some (42, 0))) 27 0 22 (some (43, 0))) 27 0 23 (some (44, 0))) 27 0 24 (some (45, 0))) 27 0 25 (some (46, 0))) 27 0 26 (some (47, 0))) 27 0 28 (some (48, 0))) 27 0 29 (some (49, 0))) 27 0 31 (some (50, 0))) 27 0 32 (some (51, 0))) 27 0 33 (some (52, 0))) 27 0 34 (some (53, 0))) 27 0 35 (some (54, 0))) 27 0 36 (some (55, 0))) 27 0 37 (some (56, 0))) 27 0 38 (some (57, 0))) 27 0 39 (some (58, 0))) 243 ((((((((((((((((((((((((((((((((c + 1) + 1) + 1) + 1) + 1) + 1) + 1) + 1) + 1) + 1) + 1) + 1) + 1) + 1) + 1) + 1) + 1) + 1) + 1) + 1) + 1) + 1) + 1) + 1) + 1) + 1) + 1) + 1) + 1) + 1) + 1) + 1) ((((((((((((((((((((((((((((((((z + 42) + Int.toNat 144) + Int.toNat 12) + Int.toNat 48) + Int.toNat 48) + Int.toNat 48) + Int.toNat 100) + Int.toNat 100) + Int.toNat 100) + Int.toNat 30) + Int.toNat 6) + Int.toNat 6) + Int.toNat 6) + Int.toNat 40) + Int.toNat 40) + Int.toNat 40) + Int.toNat 40) + Int.toNat 40) + Int.toNat 40) + Int.toNat 40) + Int.toNat 40) + Int.toNat 6) + Int.toNat 18) + Int.toNat 40) + Int.toNat 40) + Int.toNat 40) + Int.toNat 40) + Int.toNat 40) + Int.toNat 40) + Int.toNat 40) + Int.toNat 40) + Int.toNat 40) out) : Rn 0 45 [some (vr 0 0)] [vr 21 0, vr 0 0] ((159, 4, [some (vr 99 0), none, none, none, none, none, none], [vr 0 0]) :: fs) I C 211 c z out :=
  (Rn.putR (pc2 := 48) rfl rfl rfl rfl (Rn.aload_n (pc2 := 49) rfl rfl rfl (Rn.iconst (pc2 := 50) rfl rfl (Rn.putI (pc2 := 53) rfl rfl rfl rfl rfl (Rn.vret rfl (Rf.nn (pc2 := 7) rfl (Rn.astore_n (pc2 := 8) (ls2 := [some (vr 99 0), some (vr 0 0), none, none, none, none, none]) rfl rfl rfl (Rn.new (pc2 := 11) (f := 27) (i := 0) (n2 := 212) (L := 42) rfl rfl rfl rfl rfl rfl rfl (Rn.dupR (pc2 := 12) rfl rfl (Rn.ispe (as := []) (r := [vr 27 0]) (ls2 := [some (vr 27 0), none]) (f := 27) (i := 0) rfl rfl rfl rfl rfl rfl rfl rfl (Rn.aload_n (pc2 := 1) rfl rfl rfl (Rn.oinit (pc2 := 4) rfl rfl rfl rfl (Rn.aload_n (pc2 := 5) rfl rfl rfl (Rn.sipush (pc2 := 8) rfl rfl (Rn.newa (pc2 := 10) (f := 28) (i := 0) (n2 := 213) rfl rfl rfl rfl rfl rfl (Rn.putR (pc2 := 13) rfl rfl rfl rfl (Rn.aload_n (pc2 := 14) rfl rfl rfl (Rn.bipush (pc2 := 16) rfl rfl (Rn.newa (pc2 := 18) (f := 29) (i := 0) (n2 := 214) rfl rfl rfl rfl rfl rfl (Rn.putR (pc2 := 21) rfl rfl rfl rfl (Rn.aload_n (pc2 := 22) rfl rfl rfl (Rn.bipush (pc2 := 24) rfl rfl (Rn.newa (pc2 := 26) (f := 30) (i := 0) (n2 := 215) rfl rfl rfl rfl rfl rfl (Rn.putR (pc2 := 29) rfl rfl rfl rfl (Rn.aload_n (pc2 := 30) rfl rfl rfl (Rn.bipush (pc2 := 32) rfl rfl (Rn.newa (pc2 := 34) (f := 31) (i := 0) (n2 := 216) rfl rfl rfl rfl rfl rfl (Rn.putR (pc2 := 37) rfl rfl rfl rfl (Rn.aload_n (pc2 := 38) rfl rfl rfl (Rn.bipush (pc2 := 40) rfl rfl (Rn.newa (pc2 := 42) (f := 32) (i := 0) (n2 := 217) rfl rfl rfl rfl rfl rfl (Rn.putR (pc2 := 45) rfl rfl rfl rfl (Rn.aload_n (pc2 := 46) rfl rfl rfl (Rn.bipush (pc2 := 48) rfl rfl (Rn.newa (pc2 := 50) (f := 33) (i := 0) (n2 := 218) rfl rfl rfl rfl rfl rfl (Rn.putR (pc2 := 53) rfl rfl rfl rfl (Rn.aload_n (pc2 := 54) rfl rfl rfl (Rn.bipush (pc2 := 56) rfl rfl (Rn.newa (pc2 := 58) (f := 34) (i := 0) (n2 := 219) rfl rfl rfl rfl rfl rfl (Rn.putR (pc2 := 61) rfl rfl rfl rfl (Rn.aload_n (pc2 := 62) rfl rfl rfl (Rn.bipush (pc2 := 64) rfl rfl (Rn.newa (pc2 := 66) (f := 35) (i := 0) (n2 := 220) rfl rfl rfl rfl rfl rfl (Rn.putR (pc2 := 69) rfl rfl rfl rfl (Rn.aload_n (pc2 := 70) rfl rfl rfl (Rn.bipush (pc2 := 72) rfl rfl (Rn.newa (pc2 := 74) (f := 36) (i := 0) (n2 := 221) rfl rfl rfl rfl rfl rfl (Rn.putR (pc2 := 77) rfl rfl rfl rfl (Rn.aload_n (pc2 := 78) rfl rfl rfl (Rn.bipush (pc2 := 80) rfl rfl (Rn.newa (pc2 := 82) (f := 37) (i := 0) (n2 := 222) rfl rfl rfl rfl rfl rfl (Rn.putR (pc2 := 85) rfl rfl rfl rfl (Rn.aload_n (pc2 := 86) rfl rfl rfl (Rn.bipush (pc2 := 88) rfl rfl (Rn.newa (pc2 := 90) (f := 38) (i := 0) (n2 := 223) rfl rfl rfl rfl rfl rfl (Rn.putR (pc2 := 93) rfl rfl rfl rfl (Rn.aload_n (pc2 := 94) rfl rfl rfl (Rn.bipush (pc2 := 96) rfl rfl (Rn.newa (pc2 := 98) (f := 39) (i := 0) (n2 := 224) rfl rfl rfl rfl rfl rfl (Rn.putR (pc2 := 101) rfl rfl rfl rfl (Rn.aload_n (pc2 := 102) rfl rfl rfl (Rn.bipush (pc2 := 104) rfl rfl (Rn.newa (pc2 := 106) (f := 40) (i := 0) (n2 := 225) rfl rfl rfl rfl rfl rfl (Rn.putR (pc2 := 109) rfl rfl rfl rfl (Rn.aload_n (pc2 := 110) rfl rfl rfl (Rn.bipush (pc2 := 112) rfl rfl (Rn.newa (pc2 := 114) (f := 41) (i := 0) (n2 := 226) rfl rfl rfl rfl rfl rfl (Rn.putR (pc2 := 117) rfl rfl rfl rfl (Rn.aload_n (pc2 := 118) rfl rfl rfl (Rn.bipush (pc2 := 120) rfl rfl (Rn.newa (pc2 := 122) (f := 42) (i := 0) (n2 := 227) rfl rfl rfl rfl rfl rfl (Rn.putR (pc2 := 125) rfl rfl rfl rfl (Rn.aload_n (pc2 := 126) rfl rfl rfl (Rn.bipush (pc2 := 128) rfl rfl (Rn.newa (pc2 := 130) (f := 43) (i := 0) (n2 := 228) rfl rfl rfl rfl rfl rfl (Rn.putR (pc2 := 133) rfl rfl rfl rfl (Rn.aload_n (pc2 := 134) rfl rfl rfl (Rn.bipush (pc2 := 136) rfl rfl (Rn.newa (pc2 := 138) (f := 44) (i := 0) (n2 := 229) rfl rfl rfl rfl rfl rfl (Rn.putR (pc2 := 141) rfl rfl rfl rfl (Rn.aload_n (pc2 := 142) rfl rfl rfl (Rn.bipush (pc2 := 144) rfl rfl (Rn.newa (pc2 := 146) (f := 45) (i := 0) (n2 := 230) rfl rfl rfl rfl rfl rfl (Rn.putR (pc2 := 149) rfl rfl rfl rfl (Rn.aload_n (pc2 := 150) rfl rfl rfl (Rn.bipush (pc2 := 152) rfl rfl (Rn.newa (pc2 := 154) (f := 46) (i := 0) (n2 := 231) rfl rfl rfl rfl rfl rfl (Rn.putR (pc2 := 157) rfl rfl rfl rfl (Rn.aload_n (pc2 := 158) rfl rfl rfl (Rn.bipush (pc2 := 160) rfl rfl (Rn.newa (pc2 := 162) (f := 47) (i := 0) (n2 := 232) rfl rfl rfl rfl rfl rfl (Rn.putR (pc2 := 165) rfl rfl rfl rfl (Rn.aload_n (pc2 := 166) rfl rfl rfl (Rn.bipush (pc2 := 168) rfl rfl (Rn.newa (pc2 := 170) (f := 48) (i := 0) (n2 := 233) rfl rfl rfl rfl rfl rfl (Rn.putR (pc2 := 173) rfl rfl rfl rfl (Rn.aload_n (pc2 := 174) rfl rfl rfl (Rn.bipush (pc2 := 176) rfl rfl (Rn.newa (pc2 := 178) (f := 49) (i := 0) (n2 := 234) rfl rfl rfl rfl rfl rfl (Rn.putR (pc2 := 181) rfl rfl rfl rfl (Rn.aload_n (pc2 := 182) rfl rfl rfl (Rn.bipush (pc2 := 184) rfl rfl (Rn.newa (pc2 := 186) (f := 50) (i := 0) (n2 := 235) rfl rfl rfl rfl rfl rfl (Rn.putR (pc2 := 189) rfl rfl rfl rfl (Rn.aload_n (pc2 := 190) rfl rfl rfl (Rn.bipush (pc2 := 192) rfl rfl (Rn.newa (pc2 := 194) (f := 51) (i := 0) (n2 := 236) rfl rfl rfl rfl rfl rfl (Rn.putR (pc2 := 197) rfl rfl rfl rfl (Rn.aload_n (pc2 := 198) rfl rfl rfl (Rn.bipush (pc2 := 200) rfl rfl (Rn.newa (pc2 := 202) (f := 52) (i := 0) (n2 := 237) rfl rfl rfl rfl rfl rfl (Rn.putR (pc2 := 205) rfl rfl rfl rfl (Rn.aload_n (pc2 := 206) rfl rfl rfl (Rn.bipush (pc2 := 208) rfl rfl (Rn.newa (pc2 := 210) (f := 53) (i := 0) (n2 := 238) rfl rfl rfl rfl rfl rfl (Rn.putR (pc2 := 213) rfl rfl rfl rfl (Rn.aload_n (pc2 := 214) rfl rfl rfl (Rn.bipush (pc2 := 216) rfl rfl (Rn.newa (pc2 := 218) (f := 54) (i := 0) (n2 := 239) rfl rfl rfl rfl rfl rfl (Rn.putR (pc2 := 221) rfl rfl rfl rfl (Rn.aload_n (pc2 := 222) rfl rfl rfl (Rn.bipush (pc2 := 224) rfl rfl (Rn.newa (pc2 := 226) (f := 55) (i := 0) (n2 := 240) rfl rfl rfl rfl rfl rfl (Rn.putR (pc2 := 229) rfl rfl rfl rfl (Rn.aload_n (pc2 := 230) rfl rfl rfl (Rn.bipush (pc2 := 232) rfl rfl (Rn.newa (pc2 := 234) (f := 56) (i := 0) (n2 := 241) rfl rfl rfl rfl rfl rfl (Rn.putR (pc2 := 237) rfl rfl rfl rfl (Rn.aload_n (pc2 := 238) rfl rfl rfl (Rn.bipush (pc2 := 240) rfl rfl (Rn.newa (pc2 := 242) (f := 57) (i := 0) (n2 := 242) rfl rfl rfl rfl rfl rfl (Rn.putR (pc2 := 245) rfl rfl rfl rfl (Rn.aload_n (pc2 := 246) rfl rfl rfl (Rn.bipush (pc2 := 248) rfl rfl (Rn.newa (pc2 := 250) (f := 58) (i := 0) (n2 := 243) rfl rfl rfl rfl rfl rfl (Rn.putR (pc2 := 253) rfl rfl rfl rfl (Rn.iconst (pc2 := 254) rfl rfl (Rn.istore_n (pc2 := 255) (ls2 := [some (vr 27 0), some (vi 0)]) rfl rfl rfl h))))))))))))))))))))))))))))))))))))))))))))))))))))))))))))))))))))))))))))))))))))))))))))))))))))))))))))))))))))))))))))))))))))))))))

theorem z32_255 {fs : List fr} {I : IT} {C : CT} {n c z : Nat} {out : oP} {k : Int} (hC0 : C 27 0 3 = (some (28, 0))) (h : ((k < 144) → ((((wr (Int.tdiv k 12)) = (Int.tmod k 12)) → ((0 ≤ k ∧ k < 144) ∧ (Rn 32 255 [some (vr 27 0), some (vi (wr (k + 1)))] [] (fs) (up3 I 28 0 (Int.toNat k) 0) C n c z out))) ∧ (¬ ((wr (Int.tdiv k 12)) = (Int.tmod k 12)) → ((0 ≤ k ∧ k < 144) ∧ (Rn 32 255 [some (vr 27 0), some (vi (wr (k + 1)))] [] (fs) (up3 I 28 0 (Int.toNat k) 1000000) C n c z out))))) ∧ (¬ (k < 144) → (Rn 32 293 [some (vr 27 0), some (vi 0)] [] (fs) I C n c z out))) : Rn 32 255 [some (vr 27 0), some (vi k)] [] (fs) I C n c z out :=
  (Rn.iload_n (pc2 := 256) rfl rfl rfl (Rn.sipush (pc2 := 259) rfl rfl (Rn.ic_ge (pc2 := 262) rfl rfl (fun q26 => (Rn.aload_n (pc2 := 263) rfl rfl rfl (Rn.getR (pc2 := 266) (q := (some (28, 0))) rfl rfl rfl hC0 rfl (Rn.iload_n (pc2 := 267) rfl rfl rfl (Rn.iload_n (pc2 := 268) rfl rfl rfl (Rn.bipush (pc2 := 270) rfl rfl (Rn.idiv (pc2 := 271) rfl (by decide) rfl (Rn.iload_n (pc2 := 272) rfl rfl rfl (Rn.bipush (pc2 := 274) rfl rfl (Rn.irem (pc2 := 275) rfl (by decide) rfl (Rn.ic_ne (pc2 := 278) rfl rfl (fun q27 => (Rn.iconst (pc2 := 279) rfl rfl (Rn.goto rfl (Rn.iast (pc2 := 285) (L := 144) rfl rfl rfl ((h.1 q26).1 q27).1 rfl (Rn.iinc (pc2 := 288) (ls2 := [some (vr 27 0), some (vi (wr (k + 1)))]) rfl rfl rfl rfl (Rn.goto rfl ((h.1 q26).1 q27).2)))))) (fun q27 => (Rn.ldc (pc2 := 284) (v := 1000000) rfl rfl rfl (Rn.iast (pc2 := 285) (L := 144) rfl rfl rfl ((h.1 q26).2 q27).1 rfl (Rn.iinc (pc2 := 288) (ls2 := [some (vr 27 0), some (vi (wr (k + 1)))]) rfl rfl rfl rfl (Rn.goto rfl ((h.1 q26).2 q27).2)))))))))))))))) (fun q26 => (Rn.iconst (pc2 := 292) rfl rfl (Rn.istore_n (pc2 := 293) (ls2 := [some (vr 27 0), some (vi 0)]) rfl rfl rfl (h.2 q26)))))))

theorem z32_293 {fs : List fr} {I : IT} {C : CT} {n c z : Nat} {out : oP} {k : Int} (hC0 : C 27 0 13 = (some (36, 0))) (h : ((k < 30) → ((0 ≤ k ∧ k < 30) ∧ (Rn 32 293 [some (vr 27 0), some (vi (wr (k + 1)))] [] (fs) (up3 I 36 0 (Int.toNat k) k) C n c z out))) ∧ (¬ (k < 30) → (Rf (Sum.inl none) fs I C n c z out))) : Rn 32 293 [some (vr 27 0), some (vi k)] [] (fs) I C n c z out :=
  (Rn.iload_n (pc2 := 294) rfl rfl rfl (Rn.bipush (pc2 := 296) rfl rfl (Rn.ic_ge (pc2 := 299) rfl rfl (fun q28 => (Rn.aload_n (pc2 := 300) rfl rfl rfl (Rn.getR (pc2 := 303) (q := (some (36, 0))) rfl rfl rfl hC0 rfl (Rn.iload_n (pc2 := 304) rfl rfl rfl (Rn.iload_n (pc2 := 305) rfl rfl rfl (Rn.iast (pc2 := 306) (L := 30) rfl rfl rfl (h.1 q28).1 rfl (Rn.iinc (pc2 := 309) (ls2 := [some (vr 27 0), some (vi (wr (k + 1)))]) rfl rfl rfl rfl (Rn.goto rfl (h.1 q28).2)))))))) (fun q28 => (Rn.vret rfl (h.2 q28))))))

theorem z159_15 {fs : List fr} {I : IT} {C : CT} {c z : Nat} {out : oP}  (h : Rn 159 23 [some (vr 99 0), some (vr 0 0), some (vr 27 0), some (vr 59 0), some (vi 0), none, none] [] (fs) I C 244 (c + 1) (z + Int.toNat 1) out) : Rn 159 15 [some (vr 99 0), some (vr 0 0), none, none, none, none, none] [vr 27 0] (fs) I C 243 c z out :=
  (Rn.astore_n (pc2 := 16) (ls2 := [some (vr 99 0), some (vr 0 0), some (vr 27 0), none, none, none, none]) rfl rfl rfl (Rn.iconst (pc2 := 17) rfl rfl (Rn.newa (pc2 := 19) (f := 59) (i := 0) (n2 := 244) rfl rfl rfl rfl rfl rfl (Rn.astore_n (pc2 := 20) (ls2 := [some (vr 99 0), some (vr 0 0), some (vr 27 0), some (vr 59 0), none, none, none]) rfl rfl rfl (Rn.iconst (pc2 := 21) rfl rfl (Rn.istore (pc2 := 23) (ls2 := [some (vr 99 0), some (vr 0 0), some (vr 27 0), some (vr 59 0), some (vi 0), none, none]) rfl rfl rfl h))))))

theorem z91_65x {fs : List fr} {I : IT} {C : CT} {n c z : Nat} {out : oP}  (h : Rn 91 118 [some (vr 3 0), some (vi 0)] [] (fs) I C n c z out) : Rn 91 65 [some (vr 3 0), some (vi 12)] [] (fs) I C n c z out :=
  (Rn.iload_n (pc2 := 66) rfl rfl rfl (Rn.bipush (pc2 := 68) rfl rfl (Rn.ic_ge (pc2 := 71) rfl rfl (fun q => absurd q (show (¬ ((12 : Int) < 12)) by decide)) (fun _ =>  (Rn.iconst (pc2 := 117) rfl rfl (Rn.istore_n (pc2 := 118) (ls2 := [some (vr 3 0), some (vi 0)]) rfl rfl rfl h))))))

theorem z119_24x {fs : List fr} {I : IT} {C : CT} {n c z : Nat} {out : oP}  (h : Rn 119 51 [some (vr 16 0), some (vi 0)] [] (fs) I C n c z out) : Rn 119 24 [some (vr 16 0), some (vi 6)] [] (fs) I C n c z out :=
  (Rn.iload_n (pc2 := 25) rfl rfl rfl (Rn.bipush (pc2 := 27) rfl rfl (Rn.ic_ge (pc2 := 30) rfl rfl (fun q => absurd q (show (¬ ((6 : Int) < 6)) by decide)) (fun _ =>  (Rn.iconst (pc2 := 50) rfl rfl (Rn.istore_n (pc2 := 51) (ls2 := [some (vr 16 0), some (vi 0)]) rfl rfl rfl h))))))

theorem z119_51x {fs : List fr} {I : IT} {C : CT} {n c z : Nat} {out : oP}  (h : Rf (Sum.inl none) fs I C n c z out) : Rn 119 51 [some (vr 16 0), some (vi 40)] [] (fs) I C n c z out :=
  (Rn.iload_n (pc2 := 52) rfl rfl rfl (Rn.bipush (pc2 := 54) rfl rfl (Rn.ic_ge (pc2 := 57) rfl rfl (fun q => absurd q (show (¬ ((40 : Int) < 40)) by decide)) (fun _ =>  (Rn.vret rfl h)))))

theorem z77_24x {fs : List fr} {I : IT} {C : CT} {n c z : Nat} {out : oP}  (h : Rn 77 51 [some (vr 21 0), some (vi 0)] [] (fs) I C n c z out) : Rn 77 24 [some (vr 21 0), some (vi 6)] [] (fs) I C n c z out :=
  (Rn.iload_n (pc2 := 25) rfl rfl rfl (Rn.bipush (pc2 := 27) rfl rfl (Rn.ic_ge (pc2 := 30) rfl rfl (fun q => absurd q (show (¬ ((6 : Int) < 6)) by decide)) (fun _ =>  (Rn.iconst (pc2 := 50) rfl rfl (Rn.istore_n (pc2 := 51) (ls2 := [some (vr 21 0), some (vi 0)]) rfl rfl rfl h))))))

theorem z77_51x {fs : List fr} {I : IT} {C : CT} {n c z : Nat} {out : oP}  (h : Rf (Sum.inl none) fs I C n c z out) : Rn 77 51 [some (vr 21 0), some (vi 40)] [] (fs) I C n c z out :=
  (Rn.iload_n (pc2 := 52) rfl rfl rfl (Rn.bipush (pc2 := 54) rfl rfl (Rn.ic_ge (pc2 := 57) rfl rfl (fun q => absurd q (show (¬ ((40 : Int) < 40)) by decide)) (fun _ =>  (Rn.vret rfl h)))))

/-- the references as they are at last -/
abbrev C9 : CT := Cs (fun _ => none)
def Dn (C : CT) (f i j : Nat) : Prop := C f i j = C9 f i j
def Le (C C2 : CT) : Prop := ∀ f i j, Dn C f i j → Dn C2 f i j
theorem Le.refl {C : CT} : Le C C := fun _ _ _ h => h
theorem Le.trans {C C2 C3 : CT} (h : Le C C2) (g : Le C2 C3) : Le C C3 := fun f i j q => g f i j (h f i j q)
theorem Dn.up {C : CT} {f i j : Nat} {v : Option (Nat × Nat)} (h : v = C9 f i j) : Dn (up3 C f i j v) f i j := (up3_eq : up3 C f i j v f i j = v).trans h
theorem Dn.keep {C : CT} {f i j a b d : Nat} {v : Option (Nat × Nat)} (g : Dn C a b d) (h : v = C9 f i j) : Dn (up3 C f i j v) a b d := by
  by_cases q : a = f ∧ b = i ∧ d = j
  · obtain ⟨rfl, rfl, rfl⟩ := q; exact Dn.up h
  · exact (up3_no q).trans g
theorem Le.up {C C2 : CT} {f i j : Nat} {v : Option (Nat × Nat)} (g : Le C C2) (h : v = C9 f i j) : Le C (up3 C2 f i j v) := fun a b d q => (g a b d q).keep h
theorem cs50 {s : Nat} : (some (14, s) : Option (Nat × Nat)) = C9 5 0 s := by
  show _ = some (14, 12 * 0 + s)
  rw [Nat.mul_zero, Nat.zero_add]
theorem z_f2 {fs : List fr} {C : CT} {n c z : Nat} {out : oP} {v : Int} {I0 : IT} (h : ∀ I2, (∀ f a b, ¬ f = 2 → I2 f a b = I0 f a b) → (∀ x, x < 144 → I2 2 0 x = v) → Rf (Sum.inl none) fs I2 C n c z out) : ∀ (d k : Nat) (I : IT), k + d = 144 → (∀ f a b, ¬ f = 2 → I f a b = I0 f a b) → (∀ x, x < k → I 2 0 x = v) → Rn 161 5 [some (vr 2 0), some (vi v), some (vi (k : Int)), some (vi 144)] [] fs I C n c z out := by
  intro d
  induction d with
  | zero =>
    intro k I hk h1 h2
    exact zf2_5 ⟨fun g => by omega, fun _ => h I h1 (fun x hx => h2 x (by omega))⟩
  | succ d ih =>
    intro k I hk h1 h2
    refine zf2_5 ⟨fun g => ⟨by omega, ?_⟩, fun g => by omega⟩
    rw [Int.toNat_natCast, wrI (by omega) (by omega), nS]
    refine ih (k + 1) _ (by omega) (fun f a b q => (up3_nf q).trans (h1 f a b q)) (fun x hx => ?_)
    rw [up3_at]
    by_cases e : x = k
    · rw [if_pos e]
    · rw [if_neg e]; exact h2 x (by omega)
theorem z_f15 {fs : List fr} {C : CT} {n c z : Nat} {out : oP} {v : Int} {s : Nat} {I0 : IT} (h : ∀ I2, (∀ f a b, ¬ (f = 15 ∧ a = s) → I2 f a b = I0 f a b) → (∀ x, x < 30 → I2 15 s x = v) → Rf (Sum.inl none) fs I2 C n c z out) : ∀ (d k : Nat) (I : IT), k + d = 30 → (∀ f a b, ¬ (f = 15 ∧ a = s) → I f a b = I0 f a b) → (∀ x, x < k → I 15 s x = v) → Rn 161 5 [some (vr 15 s), some (vi v), some (vi (k : Int)), some (vi 30)] [] fs I C n c z out := by
  intro d
  induction d with
  | zero =>
    intro k I hk h1 h2
    exact zf15_5 ⟨fun g => by omega, fun _ => h I h1 (fun x hx => h2 x (by omega))⟩
  | succ d ih =>
    intro k I hk h1 h2
    refine zf15_5 ⟨fun g => ⟨by omega, ?_⟩, fun g => by omega⟩
    rw [Int.toNat_natCast, wrI (by omega) (by omega), nS]
    refine ih (k + 1) _ (by omega) (fun f a b q => (up3_no (fun y => q ⟨y.1, y.2.1⟩)).trans (h1 f a b q)) (fun x hx => ?_)
    rw [up3_at]
    by_cases e : x = k
    · rw [if_pos e]
    · rw [if_neg e]; exact h2 x (by omega)
theorem id_dir : ∀ s, s < 12 → idOf (11 + 8 * s) = (10, s) ∧ idOf (11 + 8 * s + 1) = (11, s) ∧ idOf (11 + 8 * s + 1 + 1) = (12, s) ∧ idOf (11 + 8 * s + 1 + 1 + 1) = (13, s) ∧ idOf (11 + 8 * s + 1 + 1 + 1 + 1) = (14, s) ∧ idOf (11 + 8 * s + 1 + 1 + 1 + 1 + 1) = (15, s) ∧ idOf (11 + 8 * s + 1 + 1 + 1 + 1 + 1 + 1) = (14, 12 + s) ∧ idOf (11 + 8 * s + 1 + 1 + 1 + 1 + 1 + 1 + 1) = (15, 12 + s) := by decide +kernel
theorem id_car : ∀ s, s < 6 → idOf (110 + s) = (19, s) := by decide +kernel
theorem id_cal : ∀ s, s < 40 → idOf (116 + s) = (20, s) := by decide +kernel
theorem id_loc : ∀ s, s < 6 → idOf (159 + 2 * s) = (24, s) ∧ idOf (159 + 2 * s + 1) = (25, s) := by decide +kernel
theorem id_par : ∀ s, s < 40 → idOf (171 + s) = (26, s) := by decide +kernel
def dD (C : CT) (t : Nat) : Prop := Dn C 4 0 t ∧ Dn C 5 0 t ∧ Dn C 5 1 t ∧ Dn C 10 t 1 ∧ Dn C 10 t 2 ∧ Dn C 10 t 3 ∧ Dn C 14 t 1 ∧ Dn C 14 (12 + t) 1
theorem dD.le {C C2 : CT} {t : Nat} (h : dD C t) (l : Le C C2) : dD C2 t := by
  obtain ⟨a, b, d, e, f, g, i, j⟩ := h
  exact ⟨l _ _ _ a, l _ _ _ b, l _ _ _ d, l _ _ _ e, l _ _ _ f, l _ _ _ g, l _ _ _ i, l _ _ _ j⟩
def iD (I : IT) (t : Nat) : Prop := (I 14 t 0 = -1 ∧ ∀ x, x < 30 → I 15 t x = -1) ∧ (I 14 (12 + t) 0 = -1 ∧ ∀ x, x < 30 → I 15 (12 + t) x = -1)
theorem z_dir {fs : List fr} {out : oP} : ∀ (d s : Nat) (I : IT) (C : CT) (c z : Nat), s + d = 12 → C 3 0 1 = some (4, 0) → C 3 0 2 = some (5, 0) → C 3 0 3 = some (5, 1) → (∀ I2 C2 c2 z2, c2 ≤ c + 8 * d → z2 ≤ z + 100 * d → Le C C2 → (∀ t, s ≤ t → t < 12 → dD C2 t) → (∀ f a b, ¬ ((f = 14 ∨ f = 15) ∧ ((s ≤ a ∧ a < 12) ∨ (12 + s ≤ a ∧ a < 24))) → I2 f a b = I f a b) → (∀ t, s ≤ t → t < 12 → iD I2 t) → Rn 91 118 [some (vr 3 0), some (vi 0)] [] fs I2 C2 107 c2 z2 out) → Rn 91 65 [some (vr 3 0), some (vi (s : Int))] [] fs I C (11 + 8 * s) c z out := by
  intro d
  induction d with
  | zero =>
    intro s I C c z hs h1 h2 h3 h
    obtain rfl : s = 12 := by omega
    exact z91_65x (h I C c z (by omega) (by omega) Le.refl (fun t q1 q2 => by omega) (fun _ _ _ _ => rfl) (fun t q1 q2 => by omega))
  | succ d ih =>
    intro s I C c z hs h1 h2 h3 h
    obtain ⟨n0, n1, n2, n3, n4, n5, n6, n7⟩ := id_dir s (by omega)
    refine z91_65 h1 h2 n0 n1 n2 n3 n4 n5 ⟨fun _ => ⟨by omega, ?_⟩, fun g => by omega⟩
    rw [Int.toNat_natCast]
    refine zf15_0 (z_f15 (s := s) (v := -1) (I0 := up3 I 14 s 0 (-1)) (fun I2 a1 a2 => ?_) 30 0 _ (by omega) (fun _ _ _ _ => rfl) (fun x hx => by omega))
    refine Rf.nn (pc2 := 25) rfl (z72_25a (t := 12 + s) h3 n6 n7 ⟨by omega, ?_⟩)
    rw [Int.toNat_natCast]
    refine zf15_0 (z_f15 (s := 12 + s) (v := -1) (I0 := up3 I2 14 (12 + s) 0 (-1)) (fun I3 b1 b2 => ?_) 30 0 _ (by omega) (fun _ _ _ _ => rfl) (fun x hx => by omega))
    refine Rf.nn (pc2 := 25) rfl (z72_25b ⟨by omega, ?_⟩)
    rw [Int.toNat_natCast, wrI (by omega) (by omega), nS, show 11 + 8 * s + 1 + 1 + 1 + 1 + 1 + 1 + 1 + 1 = 11 + 8 * (s + 1) by omega]
    generalize hC9 : up3 (up3 (up3 (up3 (up3 (up3 (up3 (up3 C 10 s 1 (some (11, s))) 10 s 2 (some (12, s))) 10 s 3 (some (13, s))) 4 0 s (some (10, s))) 14 s 1 (some (15, s))) 5 0 s (some (14, s))) 14 (12 + s) 1 (some (15, 12 + s))) 5 1 s (some (14, 12 + s)) = C1
    have l1 : Le C C1 := by
      rw [← hC9]
      (repeat (first | refine Le.up ?_ rfl | refine Le.up ?_ cs50))
      exact Le.refl
    have dn : dD C1 s := by
      rw [← hC9]
      refine ⟨?_, ?_, ?_, ?_, ?_, ?_, ?_, ?_⟩
      all_goals (repeat (first | exact Dn.up rfl | exact Dn.up cs50 | refine Dn.keep ?_ rfl | refine Dn.keep ?_ cs50))
    have k1 : C1 3 0 1 = some (4, 0) := by rw [← hC9]; exact h1
    have k2 : C1 3 0 2 = some (5, 0) := by rw [← hC9]; exact h2
    have k3 : C1 3 0 3 = some (5, 1) := by rw [← hC9]; exact h3
    have eI : ∀ f a b, ¬ ((f = 14 ∨ f = 15) ∧ (a = s ∨ a = 12 + s)) → I3 f a b = I f a b := fun f a b q => by
      rw [b1 f a b (by omega), up3_no (by omega), a1 f a b (by omega), up3_no (by omega)]
    have is : iD I3 s := by
      refine ⟨⟨?_, fun x hx => ?_⟩, ⟨?_, fun x hx => ?_⟩⟩
      · rw [b1 14 s 0 (by omega), up3_no (by omega), a1 14 s 0 (by omega), up3_eq]
      · rw [b1 15 s x (by omega), up3_no (by omega), a2 x hx]
      · rw [b1 14 (12 + s) 0 (by omega), up3_eq]
      · exact b2 x hx
    refine ih (s + 1) I3 C1 _ _ (by omega) k1 k2 k3 (fun I4 C4 c4 z4 q1 q2 q3 q4 q5 q6 => h I4 C4 c4 z4 ?_ ?_ (l1.trans q3) (fun t g1 g2 => ?_) (fun f a b g => ?_) (fun t g1 g2 => ?_))
    · omega
    · have e3 : Int.toNat 4 = 4 := rfl
      have e4 : Int.toNat 30 = 30 := rfl
      omega
    · by_cases e : t = s
      · subst e; exact dn.le q3
      · exact q4 t (by omega) g2
    · rw [q5 f a b (by omega), eI f a b (by omega)]
    · by_cases e : t = s
      · subst e
        obtain ⟨⟨u1, u2⟩, u3, u4⟩ := is
        refine ⟨⟨?_, fun x hx => ?_⟩, ⟨?_, fun x hx => ?_⟩⟩
        · rw [q5 _ _ _ (by omega)]; exact u1
        · rw [q5 _ _ _ (by omega)]; exact u2 x hx
        · rw [q5 _ _ _ (by omega)]; exact u3
        · rw [q5 _ _ _ (by omega)]; exact u4 x hx
      · exact q6 t (by omega) g2
theorem z_grp {fs : List fr} {C : CT} {n c z : Nat} {out : oP} (hC : C 3 0 4 = some (6, 0)) {I0 : IT} (h : ∀ I2, (∀ f a b, ¬ f = 6 → I2 f a b = I0 f a b) → (∀ x : Nat, x < 30 → I2 6 0 x = (x : Int)) → Rf (Sum.inl none) fs I2 C n c z out) : ∀ (d k : Nat) (I : IT), k + d = 30 → (∀ f a b, ¬ f = 6 → I f a b = I0 f a b) → (∀ x : Nat, x < k → I 6 0 x = (x : Int)) → Rn 91 118 [some (vr 3 0), some (vi (k : Int))] [] fs I C n c z out := by
  intro d
  induction d with
  | zero =>
    intro k I hk h1 h2
    exact z91_118 hC ⟨fun g => by omega, fun _ => h I h1 (fun x hx => h2 x (by omega))⟩
  | succ d ih =>
    intro k I hk h1 h2
    refine z91_118 hC ⟨fun g => ⟨by omega, ?_⟩, fun g => by omega⟩
    rw [Int.toNat_natCast, wrI (by omega) (by omega), nS]
    refine ih (k + 1) _ (by omega) (fun f a b q => (up3_nf q).trans (h1 f a b q)) (fun x hx => ?_)
    rw [up3_at]
    by_cases e : x = k
    · rw [if_pos e, e]
    · rw [if_neg e]; exact h2 x (by omega)
theorem z_alk {fs : List fr} {C : CT} {n c z : Nat} {out : oP} (hC : C 27 0 13 = some (36, 0)) {I0 : IT} (h : ∀ I2, (∀ f a b, ¬ f = 36 → I2 f a b = I0 f a b) → (∀ x : Nat, x < 30 → I2 36 0 x = (x : Int)) → Rf (Sum.inl none) fs I2 C n c z out) : ∀ (d k : Nat) (I : IT), k + d = 30 → (∀ f a b, ¬ f = 36 → I f a b = I0 f a b) → (∀ x : Nat, x < k → I 36 0 x = (x : Int)) → Rn 32 293 [some (vr 27 0), some (vi (k : Int))] [] fs I C n c z out := by
  intro d
  induction d with
  | zero =>
    intro k I hk h1 h2
    exact z32_293 hC ⟨fun g => by omega, fun _ => h I h1 (fun x hx => h2 x (by omega))⟩
  | succ d ih =>
    intro k I hk h1 h2
    refine z32_293 hC ⟨fun g => ⟨by omega, ?_⟩, fun g => by omega⟩
    rw [Int.toNat_natCast, wrI (by omega) (by omega), nS]
    refine ih (k + 1) _ (by omega) (fun f a b q => (up3_nf q).trans (h1 f a b q)) (fun x hx => ?_)
    rw [up3_at]
    by_cases e : x = k
    · rw [if_pos e, e]
    · rw [if_neg e]; exact h2 x (by omega)
def farv (k : Nat) : Int := if k / 12 = k % 12 then 0 else 1000000
theorem z_far {fs : List fr} {C : CT} {n c z : Nat} {out : oP} (hC : C 27 0 3 = some (28, 0)) {I0 : IT} (h : ∀ I2, (∀ f a b, ¬ f = 28 → I2 f a b = I0 f a b) → (∀ x : Nat, x < 144 → I2 28 0 x = farv x) → Rn 32 293 [some (vr 27 0), some (vi 0)] [] fs I2 C n c z out) : ∀ (d k : Nat) (I : IT), k + d = 144 → (∀ f a b, ¬ f = 28 → I f a b = I0 f a b) → (∀ x : Nat, x < k → I 28 0 x = farv x) → Rn 32 255 [some (vr 27 0), some (vi (k : Int))] [] fs I C n c z out := by
  intro d
  induction d with
  | zero =>
    intro k I hk h1 h2
    exact z32_255 hC ⟨fun g => by omega, fun _ => h I h1 (fun x hx => h2 x (by omega))⟩
  | succ d ih =>
    intro k I hk h1 h2
    have e1 : Int.tdiv (k : Int) 12 = ((k / 12 : Nat) : Int) := rfl
    have e2 : Int.tmod (k : Int) 12 = ((k % 12 : Nat) : Int) := rfl
    have go : ∀ v, v = farv k → Rn 32 255 [some (vr 27 0), some (vi ((k + 1 : Nat) : Int))] [] fs (up3 I 28 0 k v) C n c z out := fun v hv => by
      refine ih (k + 1) _ (by omega) (fun f a b q => (up3_nf q).trans (h1 f a b q)) (fun x hx => ?_)
      rw [up3_at]
      by_cases e : x = k
      · rw [if_pos e, e]; exact hv
      · rw [if_neg e]; exact h2 x (by omega)
    refine z32_255 hC ⟨fun g => ?_, fun g => by omega⟩
    rw [Int.toNat_natCast, wrI (x := (k : Int) + 1) (by omega) (by omega), nS, e1, e2, wrI (x := ((k / 12 : Nat) : Int)) (by omega) (by omega)]
    unfold farv at go
    refine ⟨fun q => ⟨by omega, go 0 (by rw [if_pos (by omega)])⟩, fun q => ⟨by omega, go 1000000 (by rw [if_neg (by omega)])⟩⟩
theorem z_cars {fs : List fr} {I : IT} {out : oP} : ∀ (d s : Nat) (C : CT) (c z : Nat), s + d = 6 → C 16 0 2 = some (17, 0) → C 16 0 3 = some (18, 0) → (∀ C2 c2 z2, c2 ≤ c + d → z2 ≤ z + 3 * d → Le C C2 → C2 16 0 3 = some (18, 0) → (∀ t, s ≤ t → t < 6 → Dn C2 17 0 t) → Rn 119 51 [some (vr 16 0), some (vi 0)] [] fs I C2 116 c2 z2 out) → Rn 119 24 [some (vr 16 0), some (vi (s : Int))] [] fs I C (110 + s) c z out := by
  intro d
  induction d with
  | zero =>
    intro s C c z hs h1 h2 h
    obtain rfl : s = 6 := by omega
    exact z119_24x (h C c z (by omega) (by omega) Le.refl h2 (fun t q1 q2 => by omega))
  | succ d ih =>
    intro s C c z hs h1 h2 h
    refine z119_24 h1 (id_car s (by omega)) ⟨fun _ => ⟨by omega, ?_⟩, fun g => by omega⟩
    rw [Int.toNat_natCast, wrI (by omega) (by omega), nS]
    refine ih (s + 1) _ _ _ (by omega) h1 h2 (fun C4 c4 z4 q1 q2 q3 q4 q5 => h C4 c4 z4 (by omega) (by omega) ((Le.refl.up rfl).trans q3) q4 (fun t g1 g2 => ?_))
    by_cases e : t = s
    · subst e; exact q3 _ _ _ (Dn.up rfl)
    · exact q5 t (by omega) g2
def iC (I : IT) (q : Nat) : Prop := ∀ j, I 20 q j = if 3 ≤ j ∧ j ≤ 6 then -1 else 0
theorem z_cals {fs : List fr} {out : oP} {I0 : IT} : ∀ (d s : Nat) (I : IT) (C : CT) (c z : Nat), s + d = 40 → (∀ f a b, ¬ f = 20 → I f a b = I0 f a b) → (∀ q, q < s → iC I q) → (∀ q j, s ≤ q → I 20 q j = 0) → C 16 0 3 = some (18, 0) → (∀ I2 C2 c2 z2, c2 ≤ c + d → z2 ≤ z + 8 * d → (∀ f a b, ¬ f = 20 → I2 f a b = I0 f a b) → (∀ q, q < 40 → iC I2 q) → Le C C2 → (∀ t, s ≤ t → t < 40 → Dn C2 18 0 t) → Rf (Sum.inl none) fs I2 C2 156 c2 z2 out) → Rn 119 51 [some (vr 16 0), some (vi (s : Int))] [] fs I C (116 + s) c z out := by
  intro d
  induction d with
  | zero =>
    intro s I C c z hs a1 a2 a3 h2 h
    obtain rfl : s = 40 := by omega
    exact z119_51x (h I C c z (by omega) (by omega) a1 a2 Le.refl (fun t q1 q2 => by omega))
  | succ d ih =>
    intro s I C c z hs a1 a2 a3 h2 h
    refine z119_51 h2 (id_cal s (by omega)) ⟨fun _ => ⟨by omega, ?_⟩, fun g => by omega⟩
    rw [Int.toNat_natCast, wrI (by omega) (by omega), nS]
    refine ih (s + 1) _ _ _ _ (by omega) (fun f a b q => by rw [up3_nf q, up3_nf q, up3_nf q, up3_nf q]; exact a1 f a b q) (fun q hq j => ?_) (fun q j hq => ?_) h2 (fun I4 C4 c4 z4 q1 q2 q3 q4 q5 q6 => h I4 C4 c4 z4 (by omega) (by omega) q3 q4 ((Le.refl.up rfl).trans q5) (fun t g1 g2 => ?_))
    · rw [up3_ati, up3_ati, up3_ati, up3_ati]
      by_cases e : q = s
      · rw [a3 q j (by omega)]
        (repeat' split) <;> omega
      · rw [if_neg (fun y => e y.1), if_neg (fun y => e y.1), if_neg (fun y => e y.1), if_neg (fun y => e y.1)]
        exact a2 q (by omega) j
    · rw [up3_no (by omega), up3_no (by omega), up3_no (by omega), up3_no (by omega)]; exact a3 q j (by omega)
    · by_cases e : t = s
      · subst e; exact q5 _ _ _ (Dn.up rfl)
      · exact q6 t (by omega) g2
theorem z_locs {fs : List fr} {I : IT} {out : oP} : ∀ (d s : Nat) (C : CT) (c z : Nat), s + d = 6 → C 21 0 2 = some (22, 0) → C 21 0 3 = some (23, 0) → (∀ C2 c2 z2, c2 ≤ c + 2 * d → z2 ≤ z + 5 * d → Le C C2 → C2 21 0 3 = some (23, 0) → (∀ t, s ≤ t → t < 6 → Dn C2 22 0 t ∧ Dn C2 24 t 1) → Rn 77 51 [some (vr 21 0), some (vi 0)] [] fs I C2 171 c2 z2 out) → Rn 77 24 [some (vr 21 0), some (vi (s : Int))] [] fs I C (159 + 2 * s) c z out := by
  intro d
  induction d with
  | zero =>
    intro s C c z hs h1 h2 h
    obtain rfl : s = 6 := by omega
    exact z77_24x (h C c z (by omega) (by omega) Le.refl h2 (fun t q1 q2 => by omega))
  | succ d ih =>
    intro s C c z hs h1 h2 h
    obtain ⟨n0, n1⟩ := id_loc s (by omega)
    refine z77_24 h1 n0 n1 ⟨fun _ => ⟨by omega, ?_⟩, fun g => by omega⟩
    rw [Int.toNat_natCast, wrI (by omega) (by omega), nS, show 159 + 2 * s + 1 + 1 = 159 + 2 * (s + 1) by omega]
    refine ih (s + 1) _ _ _ (by omega) h1 h2 (fun C4 c4 z4 q1 q2 q3 q4 q5 => h C4 c4 z4 (by omega) ?_ (((Le.refl.up rfl).up rfl).trans q3) q4 (fun t g1 g2 => ?_))
    · have e3 : Int.toNat 3 = 3 := rfl
      omega
    · by_cases e : t = s
      · subst e; exact ⟨q3 _ _ _ (Dn.up rfl), q3 _ _ _ ((Dn.up rfl).keep rfl)⟩
      · exact q5 t (by omega) g2
def iP (I : IT) (q : Nat) : Prop := ∀ j, I 26 q j = if 5 ≤ j ∧ j ≤ 6 then -1 else 0
theorem z_pars {fs : List fr} {out : oP} {I0 : IT} : ∀ (d s : Nat) (I : IT) (C : CT) (c z : Nat), s + d = 40 → (∀ f a b, ¬ f = 26 → I f a b = I0 f a b) → (∀ q, q < s → iP I q) → (∀ q j, s ≤ q → I 26 q j = 0) → C 21 0 3 = some (23, 0) → (∀ I2 C2 c2 z2, c2 ≤ c + d → z2 ≤ z + 9 * d → (∀ f a b, ¬ f = 26 → I2 f a b = I0 f a b) → (∀ q, q < 40 → iP I2 q) → Le C C2 → (∀ t, s ≤ t → t < 40 → Dn C2 23 0 t) → Rf (Sum.inl none) fs I2 C2 211 c2 z2 out) → Rn 77 51 [some (vr 21 0), some (vi (s : Int))] [] fs I C (171 + s) c z out := by
  intro d
  induction d with
  | zero =>
    intro s I C c z hs a1 a2 a3 h2 h
    obtain rfl : s = 40 := by omega
    exact z77_51x (h I C c z (by omega) (by omega) a1 a2 Le.refl (fun t q1 q2 => by omega))
  | succ d ih =>
    intro s I C c z hs a1 a2 a3 h2 h
    refine z77_51 h2 (id_par s (by omega)) ⟨fun _ => ⟨by omega, ?_⟩, fun g => by omega⟩
    rw [Int.toNat_natCast, wrI (by omega) (by omega), nS]
    refine ih (s + 1) _ _ _ _ (by omega) (fun f a b q => by rw [up3_nf q, up3_nf q]; exact a1 f a b q) (fun q hq j => ?_) (fun q j hq => ?_) h2 (fun I4 C4 c4 z4 q1 q2 q3 q4 q5 q6 => h I4 C4 c4 z4 (by omega) (by omega) q3 q4 ((Le.refl.up rfl).trans q5) (fun t g1 g2 => ?_))
    · rw [up3_ati, up3_ati]
      by_cases e : q = s
      · rw [a3 q j (by omega)]
        (repeat' split) <;> omega
      · rw [if_neg (fun y => e y.1), if_neg (fun y => e y.1)]
        exact a2 q (by omega) j
    · rw [up3_no (by omega), up3_no (by omega)]; exact a3 q j (by omega)
    · by_cases e : t = s
      · subst e; exact q5 _ _ _ (Dn.up rfl)
      · exact q6 t (by omega) g2


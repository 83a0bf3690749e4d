theorem zf2_0 {fs : List fr} {I : IT} {C : CT} {n c z : Nat} {out : oP} {v : Int} (h : Rn 161 5 [some (vr 2 0), some (vi v), some (vi 0), some (vi 144)] [] (fs) I C n c z out) : Rn 161 0 [some (vr 2 0), some (vi v), none, none] [] (fs) I C n c z out :=
  (Rn.iconst (pc2 := 1) rfl rfl (Rn.istore_n (pc2 := 2) (ls2 := [some (vr 2 0), some (vi v), some (vi 0), none]) rfl rfl rfl (Rn.aload_n (pc2 := 3) rfl rfl rfl (Rn.alen (pc2 := 4) (L := 144) rfl rfl rfl rfl rfl rfl (Rn.istore_n (pc2 := 5) (ls2 := [some (vr 2 0), some (vi v), some (vi 0), some (vi 144)]) rfl rfl rfl h)))))

theorem zf2_5 {fs : List fr} {I : IT} {C : CT} {n c z : Nat} {out : oP} {v : Int} {k : Int} {l : Int} (h : ((k < l) → ((0 ≤ k ∧ k < 144) ∧ (Rn 161 5 [some (vr 2 0), some (vi v), some (vi (wr (k + 1))), some (vi l)] [] (fs) (up3 I 2 0 (Int.toNat k) v) C n c z out))) ∧ (¬ (k < l) → (Rf (Sum.inl none) fs I C n c z out))) : Rn 161 5 [some (vr 2 0), some (vi v), some (vi k), some (vi l)] [] (fs) I C n c z out :=
  (Rn.iload_n (pc2 := 6) rfl rfl rfl (Rn.iload_n (pc2 := 7) rfl rfl rfl (Rn.ic_ge (pc2 := 10) rfl rfl (fun q1 => (Rn.aload_n (pc2 := 11) rfl rfl rfl (Rn.iload_n (pc2 := 12) rfl rfl rfl (Rn.iload_n (pc2 := 13) rfl rfl rfl (Rn.iast (pc2 := 14) (L := 144) rfl rfl rfl (h.1 q1).1 rfl (Rn.iinc (pc2 := 17) (ls2 := [some (vr 2 0), some (vi v), some (vi (wr (k + 1))), some (vi l)]) rfl rfl rfl rfl (Rn.goto rfl (h.1 q1).2))))))) (fun q1 => (Rn.vret rfl (h.2 q1))))))

theorem zf15_0 {fs : List fr} {I : IT} {C : CT} {n c z : Nat} {out : oP} {s : Nat} {v : Int} (h : Rn 161 5 [some (vr 15 s), some (vi v), some (vi 0), some (vi 30)] [] (fs) I C n c z out) : Rn 161 0 [some (vr 15 s), some (vi v), none, none] [] (fs) I C n c z out :=
  (Rn.iconst (pc2 := 1) rfl rfl (Rn.istore_n (pc2 := 2) (ls2 := [some (vr 15 s), some (vi v), some (vi 0), none]) rfl rfl rfl (Rn.aload_n (pc2 := 3) rfl rfl rfl (Rn.alen (pc2 := 4) (L := 30) rfl rfl rfl rfl rfl rfl (Rn.istore_n (pc2 := 5) (ls2 := [some (vr 15 s), some (vi v), some (vi 0), some (vi 30)]) rfl rfl rfl h)))))

theorem zf15_5 {fs : List fr} {I : IT} {C : CT} {n c z : Nat} {out : oP} {s : Nat} {v : Int} {k : Int} {l : Int} (h : ((k < l) → ((0 ≤ k ∧ k < 30) ∧ (Rn 161 5 [some (vr 15 s), some (vi v), some (vi (wr (k + 1))), some (vi l)] [] (fs) (up3 I 15 s (Int.toNat k) v) C n c z out))) ∧ (¬ (k < l) → (Rf (Sum.inl none) fs I C n c z out))) : Rn 161 5 [some (vr 15 s), some (vi v), some (vi k), some (vi l)] [] (fs) I C n c z out :=
  (Rn.iload_n (pc2 := 6) rfl rfl rfl (Rn.iload_n (pc2 := 7) rfl rfl rfl (Rn.ic_ge (pc2 := 10) rfl rfl (fun q2 => (Rn.aload_n (pc2 := 11) rfl rfl rfl (Rn.iload_n (pc2 := 12) rfl rfl rfl (Rn.iload_n (pc2 := 13) rfl rfl rfl (Rn.iast (pc2 := 14) (L := 30) rfl rfl rfl (h.1 q2).1 rfl (Rn.iinc (pc2 := 17) (ls2 := [some (vr 15 s), some (vi v), some (vi (wr (k + 1))), some (vi l)]) rfl rfl rfl rfl (Rn.goto rfl (h.1 q2).2))))))) (fun q2 => (Rn.vret rfl (h.2 q2))))))

theorem zi_0 {fs : List fr} {I : IT} {C : CT} {c z : Nat} {out : oP}  (h : Rn 161 0 [some (vr 2 0), some (vi (-1)), none, none] [] ((113, 18, [some (vr 1 0)], []) :: (0, 9, [some (vr 0 0)], [vr 1 0, vr 0 0]) :: fs) I (up3 C 1 0 2 (some (2, 0))) 3 ((c + 1) + 1) ((z + 3) + Int.toNat 144) out) : Rn 0 0 [some (vr 0 0)] [] (fs) I C 1 c z out :=
  (Rn.aload_n (pc2 := 1) rfl rfl rfl (Rn.oinit (pc2 := 4) rfl rfl rfl rfl (Rn.aload_n (pc2 := 5) rfl rfl rfl (Rn.new (pc2 := 8) (f := 1) (i := 0) (n2 := 2) (L := 3) rfl rfl rfl rfl rfl rfl rfl (Rn.dupR (pc2 := 9) rfl rfl (Rn.ispe (as := []) (r := [vr 1 0, vr 0 0]) (ls2 := [some (vr 1 0)]) (f := 1) (i := 0) rfl rfl rfl rfl rfl rfl rfl rfl (Rn.aload_n (pc2 := 1) rfl rfl rfl (Rn.oinit (pc2 := 4) rfl rfl rfl rfl (Rn.aload_n (pc2 := 5) rfl rfl rfl (Rn.sipush (pc2 := 8) rfl rfl (Rn.newa (pc2 := 10) (f := 2) (i := 0) (n2 := 3) rfl rfl rfl rfl rfl rfl (Rn.putR (pc2 := 13) rfl rfl rfl rfl (Rn.aload_n (pc2 := 14) rfl rfl rfl (Rn.getR (pc2 := 17) (q := (some (2, 0))) rfl rfl rfl up3_eq rfl (Rn.iconst (pc2 := 18) rfl rfl (Rn.ista (as := [vr 2 0, vi (-1)]) (r := []) (ls2 := [some (vr 2 0), some (vi (-1)), none, none]) rfl rfl rfl rfl rfl rfl rfl h))))))))))))))))

theorem z113_21 {fs : List fr} {I : IT} {C : CT} {c z : Nat} {out : oP}  (h : Rn 91 65 [some (vr 3 0), some (vi 0)] [] ((0, 20, [some (vr 0 0)], [vr 3 0, vr 0 0]) :: fs) I (up3 (up3 (up3 (up3 (up3 (up3 (up3 (up3 C 0 0 0 (some (1, 0))) 3 0 1 (some (4, 0))) 3 0 2 (some (5, 0))) 3 0 3 (some (5, 1))) 3 0 4 (some (6, 0))) 3 0 6 (some (7, 0))) 3 0 7 (some (8, 0))) 3 0 8 (some (9, 0))) 11 ((((((((c + 1) + 1) + 1) + 1) + 1) + 1) + 1) + 1) ((((((((z + 9) + Int.toNat 12) + Int.toNat 12) + Int.toNat 12) + Int.toNat 30) + Int.toNat 100) + Int.toNat 100) + Int.toNat 100) out) : Rn 113 21 [some (vr 1 0)] [] ((0, 9, [some (vr 0 0)], [vr 1 0, vr 0 0]) :: fs) I C 3 c z out :=
  (Rn.vret rfl (Rf.nn (pc2 := 12) rfl (Rn.putR (pc2 := 15) rfl rfl rfl rfl (Rn.aload_n (pc2 := 16) rfl rfl rfl (Rn.new (pc2 := 19) (f := 3) (i := 0) (n2 := 4) (L := 9) rfl rfl rfl rfl rfl rfl rfl (Rn.dupR (pc2 := 20) rfl rfl (Rn.ispe (as := []) (r := [vr 3 0, vr 0 0]) (ls2 := [some (vr 3 0), none]) (f := 3) (i := 0) rfl rfl rfl rfl rfl rfl rfl rfl (Rn.aload_n (pc2 := 1) rfl rfl rfl (Rn.oinit (pc2 := 4) rfl rfl rfl rfl (Rn.aload_n (pc2 := 5) rfl rfl rfl (Rn.bipush (pc2 := 7) rfl rfl (Rn.anew (pc2 := 10) (f := 4) (i := 0) (n2 := 5) rfl rfl rfl rfl rfl rfl (Rn.putR (pc2 := 13) rfl rfl rfl rfl (Rn.aload_n (pc2 := 14) rfl rfl rfl (Rn.bipush (pc2 := 16) rfl rfl (Rn.anew (pc2 := 19) (f := 5) (i := 0) (n2 := 6) rfl rfl rfl rfl rfl rfl (Rn.putR (pc2 := 22) rfl rfl rfl rfl (Rn.aload_n (pc2 := 23) rfl rfl rfl (Rn.bipush (pc2 := 25) rfl rfl (Rn.anew (pc2 := 28) (f := 5) (i := 1) (n2 := 7) rfl rfl rfl rfl rfl rfl (Rn.putR (pc2 := 31) rfl rfl rfl rfl (Rn.aload_n (pc2 := 32) rfl rfl rfl (Rn.bipush (pc2 := 34) rfl rfl (Rn.newa (pc2 := 36) (f := 6) (i := 0) (n2 := 8) rfl rfl rfl rfl rfl rfl (Rn.putR (pc2 := 39) rfl rfl rfl rfl (Rn.aload_n (pc2 := 40) rfl rfl rfl (Rn.bipush (pc2 := 42) rfl rfl (Rn.newa (pc2 := 44) (f := 7) (i := 0) (n2 := 9) rfl rfl rfl rfl rfl rfl (Rn.putR (pc2 := 47) rfl rfl rfl rfl (Rn.aload_n (pc2 := 48) rfl rfl rfl (Rn.bipush (pc2 := 50) rfl rfl (Rn.newa (pc2 := 52) (f := 8) (i := 0) (n2 := 10) rfl rfl rfl rfl rfl rfl (Rn.putR (pc2 := 55) rfl rfl rfl rfl (Rn.aload_n (pc2 := 56) rfl rfl rfl (Rn.bipush (pc2 := 58) rfl rfl (Rn.newa (pc2 := 60) (f := 9) (i := 0) (n2 := 11) rfl rfl rfl rfl rfl rfl (Rn.putR (pc2 := 63) rfl rfl rfl rfl (Rn.iconst (pc2 := 64) rfl rfl (Rn.istore_n (pc2 := 65) (ls2 := [some (vr 3 0), some (vi 0)]) rfl rfl rfl h)))))))))))))))))))))))))))))))))))))))

theorem z91_65 {fs : List fr} {I : IT} {C : CT} {n c z : Nat} {out : oP} {i : Int} {s : Nat} (hC0 : C 3 0 1 = (some (4, 0))) (hC1 : C 3 0 2 = (some (5, 0))) (hn0 : idOf n = (10, s)) (hn1 : idOf (n + 1) = (11, s)) (hn2 : idOf ((n + 1) + 1) = (12, s)) (hn3 : idOf (((n + 1) + 1) + 1) = (13, s)) (hn4 : idOf ((((n + 1) + 1) + 1) + 1) = (14, s)) (hn5 : idOf (((((n + 1) + 1) + 1) + 1) + 1) = (15, s)) (h : ((i < 12) → ((0 ≤ i ∧ i < 12) ∧ (Rn 161 0 [some (vr 15 s), some (vi (-1)), none, none] [] ((72, 22, [some (vr 14 s)], []) :: (91, 93, [some (vr 3 0), some (vi i)], [vr 14 s, vi i, vr 5 0]) :: fs) (up3 I 14 s 0 (-1)) (up3 (up3 (up3 (up3 (up3 C 10 s 1 (some (11, s))) 10 s 2 (some (12, s))) 10 s 3 (some (13, s))) 4 0 (Int.toNat i) (some (10, s))) 14 s 1 (some (15, s))) ((((((n + 1) + 1) + 1) + 1) + 1) + 1) ((((((c + 1) + 1) + 1) + 1) + 1) + 1) ((((((z + 4) + Int.toNat 4) + Int.toNat 4) + Int.toNat 4) + 2) + Int.toNat 30) out))) ∧ (¬ (i < 12) → (Rn 91 118 [some (vr 3 0), some (vi 0)] [] (fs) I C n c z out))) : Rn 91 65 [some (vr 3 0), some (vi i)] [] (fs) I C n c z out :=
  (Rn.iload_n (pc2 := 66) rfl rfl rfl (Rn.bipush (pc2 := 68) rfl rfl (Rn.ic_ge (pc2 := 71) rfl rfl (fun q3 => (Rn.aload_n (pc2 := 72) rfl rfl rfl (Rn.getR (pc2 := 75) (q := (some (4, 0))) rfl rfl rfl hC0 rfl (Rn.iload_n (pc2 := 76) rfl rfl rfl (Rn.new (pc2 := 79) (f := 10) (i := s) (n2 := (n + 1)) (L := 4) rfl rfl hn0 rfl rfl rfl rfl (Rn.dupR (pc2 := 80) rfl rfl (Rn.ispe (as := []) (r := [vr 10 s, vi i, vr 4 0]) (ls2 := [some (vr 10 s)]) (f := 10) (i := s) rfl rfl rfl rfl rfl rfl rfl rfl (Rn.aload_n (pc2 := 1) rfl rfl rfl (Rn.oinit (pc2 := 4) rfl rfl rfl rfl (Rn.aload_n (pc2 := 5) rfl rfl rfl (Rn.iconst (pc2 := 6) rfl rfl (Rn.newa (pc2 := 8) (f := 11) (i := s) (n2 := ((n + 1) + 1)) rfl hn1 rfl rfl rfl rfl (Rn.putR (pc2 := 11) rfl rfl rfl rfl (Rn.aload_n (pc2 := 12) rfl rfl rfl (Rn.iconst (pc2 := 13) rfl rfl (Rn.newa (pc2 := 15) (f := 12) (i := s) (n2 := (((n + 1) + 1) + 1)) rfl hn2 rfl rfl rfl rfl (Rn.putR (pc2 := 18) rfl rfl rfl rfl (Rn.aload_n (pc2 := 19) rfl rfl rfl (Rn.iconst (pc2 := 20) rfl rfl (Rn.newa (pc2 := 22) (f := 13) (i := s) (n2 := ((((n + 1) + 1) + 1) + 1)) rfl hn3 rfl rfl rfl rfl (Rn.putR (pc2 := 25) rfl rfl rfl rfl (Rn.vret rfl (Rf.nn (pc2 := 83) rfl (Rn.aast (pc2 := 84) (L := 12) rfl rfl rfl rfl (h.1 q3).1 rfl (Rn.aload_n (pc2 := 85) rfl rfl rfl (Rn.getR (pc2 := 88) (q := (some (5, 0))) rfl rfl rfl hC1 rfl (Rn.iload_n (pc2 := 89) rfl rfl rfl (Rn.new (pc2 := 92) (f := 14) (i := s) (n2 := (((((n + 1) + 1) + 1) + 1) + 1)) (L := 2) rfl rfl hn4 rfl rfl rfl rfl (Rn.dupR (pc2 := 93) rfl rfl (Rn.ispe (as := []) (r := [vr 14 s, vi i, vr 5 0]) (ls2 := [some (vr 14 s)]) (f := 14) (i := s) rfl rfl rfl rfl rfl rfl rfl rfl (Rn.aload_n (pc2 := 1) rfl rfl rfl (Rn.oinit (pc2 := 4) rfl rfl rfl rfl (Rn.aload_n (pc2 := 5) rfl rfl rfl (Rn.iconst (pc2 := 6) rfl rfl (Rn.putI (pc2 := 9) rfl rfl rfl rfl rfl (Rn.aload_n (pc2 := 10) rfl rfl rfl (Rn.bipush (pc2 := 12) rfl rfl (Rn.newa (pc2 := 14) (f := 15) (i := s) (n2 := ((((((n + 1) + 1) + 1) + 1) + 1) + 1)) rfl hn5 rfl rfl rfl rfl (Rn.putR (pc2 := 17) rfl rfl rfl rfl (Rn.aload_n (pc2 := 18) rfl rfl rfl (Rn.getR (pc2 := 21) (q := (some (15, s))) rfl rfl rfl up3_eq rfl (Rn.iconst (pc2 := 22) rfl rfl (Rn.ista (as := [vr 15 s, vi (-1)]) (r := []) (ls2 := [some (vr 15 s), some (vi (-1)), none, none]) rfl rfl rfl rfl rfl rfl rfl (h.1 q3).2))))))))))))))))))))))))))))))))))))))))))) (fun q3 => (Rn.iconst (pc2 := 117) rfl rfl (Rn.istore_n (pc2 := 118) (ls2 := [some (vr 3 0), some (vi 0)]) rfl rfl rfl (h.2 q3)))))))

theorem z72_25a {fs : List fr} {I : IT} {C : CT} {n c z : Nat} {out : oP} {s : Nat} {i : Int} {t : Nat} (hC0 : C 3 0 3 = (some (5, 1))) (hn0 : idOf n = (14, t)) (hn1 : idOf (n + 1) = (15, t)) (h : (0 ≤ i ∧ i < 12) ∧ (Rn 161 0 [some (vr 15 t), some (vi (-1)), none, none] [] ((72, 22, [some (vr 14 t)], []) :: (91, 106, [some (vr 3 0), some (vi i)], [vr 14 t, vi i, vr 5 1]) :: fs) (up3 I 14 t 0 (-1)) (up3 (up3 C 5 0 (Int.toNat i) (some (14, s))) 14 t 1 (some (15, t))) ((n + 1) + 1) ((c + 1) + 1) ((z + 2) + Int.toNat 30) out)) : Rn 72 25 [some (vr 14 s)] [] ((91, 93, [some (vr 3 0), some (vi i)], [vr 14 s, vi i, vr 5 0]) :: fs) I C n c z out :=
  (Rn.vret rfl (Rf.nn (pc2 := 96) rfl (Rn.aast (pc2 := 97) (L := 12) rfl rfl rfl rfl h.1 rfl (Rn.aload_n (pc2 := 98) rfl rfl rfl (Rn.getR (pc2 := 101) (q := (some (5, 1))) rfl rfl rfl hC0 rfl (Rn.iload_n (pc2 := 102) rfl rfl rfl (Rn.new (pc2 := 105) (f := 14) (i := t) (n2 := (n + 1)) (L := 2) rfl rfl hn0 rfl rfl rfl rfl (Rn.dupR (pc2 := 106) rfl rfl (Rn.ispe (as := []) (r := [vr 14 t, vi i, vr 5 1]) (ls2 := [some (vr 14 t)]) (f := 14) (i := t) rfl rfl rfl rfl rfl rfl rfl rfl (Rn.aload_n (pc2 := 1) rfl rfl rfl (Rn.oinit (pc2 := 4) rfl rfl rfl rfl (Rn.aload_n (pc2 := 5) rfl rfl rfl (Rn.iconst (pc2 := 6) rfl rfl (Rn.putI (pc2 := 9) rfl rfl rfl rfl rfl (Rn.aload_n (pc2 := 10) rfl rfl rfl (Rn.bipush (pc2 := 12) rfl rfl (Rn.newa (pc2 := 14) (f := 15) (i := t) (n2 := ((n + 1) + 1)) rfl hn1 rfl rfl rfl rfl (Rn.putR (pc2 := 17) rfl rfl rfl rfl (Rn.aload_n (pc2 := 18) rfl rfl rfl (Rn.getR (pc2 := 21) (q := (some (15, t))) rfl rfl rfl up3_eq rfl (Rn.iconst (pc2 := 22) rfl rfl (Rn.ista (as := [vr 15 t, vi (-1)]) (r := []) (ls2 := [some (vr 15 t), some (vi (-1)), none, none]) rfl rfl rfl rfl rfl rfl rfl h.2))))))))))))))))))))))

theorem z72_25b {fs : List fr} {I : IT} {C : CT} {n c z : Nat} {out : oP} {t : Nat} {i : Int} (h : (0 ≤ i ∧ i < 12) ∧ (Rn 91 65 [some (vr 3 0), some (vi (wr (i + 1)))] [] (fs) I (up3 C 5 1 (Int.toNat i) (some (14, t))) n c z out)) : Rn 72 25 [some (vr 14 t)] [] ((91, 106, [some (vr 3 0), some (vi i)], [vr 14 t, vi i, vr 5 1]) :: fs) I C n c z out :=
  (Rn.vret rfl (Rf.nn (pc2 := 109) rfl (Rn.aast (pc2 := 110) (L := 12) rfl rfl rfl rfl h.1 rfl (Rn.iinc (pc2 := 113) (ls2 := [some (vr 3 0), some (vi (wr (i + 1)))]) rfl rfl rfl rfl (Rn.goto rfl h.2)))))

theorem z91_118 {fs : List fr} {I : IT} {C : CT} {n c z : Nat} {out : oP} {k : Int} (hC0 : C 3 0 4 = (some (6, 0))) (h : ((k < 30) → ((0 ≤ k ∧ k < 30) ∧ (Rn 91 118 [some (vr 3 0), some (vi (wr (k + 1)))] [] (fs) (up3 I 6 0 (Int.toNat k) k) C n c z out))) ∧ (¬ (k < 30) → (Rf (Sum.inl none) fs I C n c z out))) : Rn 91 118 [some (vr 3 0), some (vi k)] [] (fs) I C n c z out :=
  (Rn.iload_n (pc2 := 119) rfl rfl rfl (Rn.bipush (pc2 := 121) rfl rfl (Rn.ic_ge (pc2 := 124) rfl rfl (fun q4 => (Rn.aload_n (pc2 := 125) rfl rfl rfl (Rn.getR (pc2 := 128) (q := (some (6, 0))) rfl rfl rfl hC0 rfl (Rn.iload_n (pc2 := 129) rfl rfl rfl (Rn.iload_n (pc2 := 130) rfl rfl rfl (Rn.iast (pc2 := 131) (L := 30) rfl rfl rfl (h.1 q4).1 rfl (Rn.iinc (pc2 := 134) (ls2 := [some (vr 3 0), some (vi (wr (k + 1)))]) rfl rfl rfl rfl (Rn.goto rfl (h.1 q4).2)))))))) (fun q4 => (Rn.vret rfl (h.2 q4))))))

theorem z0_23 {fs : List fr} {I : IT} {C : CT} {c z : Nat} {out : oP}  (h : Rn 119 24 [some (vr 16 0), some (vi 0)] [] ((0, 31, [some (vr 0 0)], [vr 16 0, vr 0 0]) :: fs) I (up3 (up3 (up3 C 0 0 1 (some (3, 0))) 16 0 2 (some (17, 0))) 16 0 3 (some (18, 0))) 110 (((c + 1) + 1) + 1) (((z + 4) + Int.toNat 6) + Int.toNat 40) out) : Rn 0 23 [some (vr 0 0)] [vr 3 0, vr 0 0] (fs) I C 107 c z out :=
  (Rn.putR (pc2 := 26) rfl rfl rfl rfl (Rn.aload_n (pc2 := 27) rfl rfl rfl (Rn.new (pc2 := 30) (f := 16) (i := 0) (n2 := 108) (L := 4) rfl rfl rfl rfl rfl rfl rfl (Rn.dupR (pc2 := 31) rfl rfl (Rn.ispe (as := []) (r := [vr 16 0, vr 0 0]) (ls2 := [some (vr 16 0), none]) (f := 16) (i := 0) rfl rfl rfl rfl rfl rfl rfl rfl (Rn.aload_n (pc2 := 1) rfl rfl rfl (Rn.oinit (pc2 := 4) rfl rfl rfl rfl (Rn.aload_n (pc2 := 5) rfl rfl rfl (Rn.bipush (pc2 := 7) rfl rfl (Rn.anew (pc2 := 10) (f := 17) (i := 0) (n2 := 109) rfl rfl rfl rfl rfl rfl (Rn.putR (pc2 := 13) rfl rfl rfl rfl (Rn.aload_n (pc2 := 14) rfl rfl rfl (Rn.bipush (pc2 := 16) rfl rfl (Rn.anew (pc2 := 19) (f := 18) (i := 0) (n2 := 110) rfl rfl rfl rfl rfl rfl (Rn.putR (pc2 := 22) rfl rfl rfl rfl (Rn.iconst (pc2 := 23) rfl rfl (Rn.istore_n (pc2 := 24) (ls2 := [some (vr 16 0), some (vi 0)]) rfl rfl rfl h)))))))))))))))))

theorem z119_24 {fs : List fr} {I : IT} {C : CT} {n c z : Nat} {out : oP} {i : Int} {s : Nat} (hC0 : C 16 0 2 = (some (17, 0))) (hn0 : idOf n = (19, s)) (h : ((i < 6) → ((0 ≤ i ∧ i < 6) ∧ (Rn 119 24 [some (vr 16 0), some (vi (wr (i + 1)))] [] (fs) I (up3 C 17 0 (Int.toNat i) (some (19, s))) (n + 1) (c + 1) (z + 3) out))) ∧ (¬ (i < 6) → (Rn 119 51 [some (vr 16 0), some (vi 0)] [] (fs) I C n c z out))) : Rn 119 24 [some (vr 16 0), some (vi i)] [] (fs) I C n c z out :=
  (Rn.iload_n (pc2 := 25) rfl rfl rfl (Rn.bipush (pc2 := 27) rfl rfl (Rn.ic_ge (pc2 := 30) rfl rfl (fun q5 => (Rn.aload_n (pc2 := 31) rfl rfl rfl (Rn.getR (pc2 := 34) (q := (some (17, 0))) rfl rfl rfl hC0 rfl (Rn.iload_n (pc2 := 35) rfl rfl rfl (Rn.new (pc2 := 38) (f := 19) (i := s) (n2 := (n + 1)) (L := 3) rfl rfl hn0 rfl rfl rfl rfl (Rn.dupR (pc2 := 39) rfl rfl (Rn.ispe (as := []) (r := [vr 19 s, vi i, vr 17 0]) (ls2 := [some (vr 19 s)]) (f := 19) (i := s) rfl rfl rfl rfl rfl rfl rfl rfl (Rn.aload_n (pc2 := 1) rfl rfl rfl (Rn.oinit (pc2 := 4) rfl rfl rfl rfl (Rn.vret rfl (Rf.nn (pc2 := 42) rfl (Rn.aast (pc2 := 43) (L := 6) rfl rfl rfl rfl (h.1 q5).1 rfl (Rn.iinc (pc2 := 46) (ls2 := [some (vr 16 0), some (vi (wr (i + 1)))]) rfl rfl rfl rfl (Rn.goto rfl (h.1 q5).2)))))))))))))) (fun q5 => (Rn.iconst (pc2 := 50) rfl rfl (Rn.istore_n (pc2 := 51) (ls2 := [some (vr 16 0), some (vi 0)]) rfl rfl rfl (h.2 q5)))))))

theorem z119_51 {fs : List fr} {I : IT} {C : CT} {n c z : Nat} {out : oP} {i : Int} {s : Nat} (hC0 : C 16 0 3 = (some (18, 0))) (hn0 : idOf n = (20, s)) (h : ((i < 40) → ((0 ≤ i ∧ i < 40) ∧ (Rn 119 51 [some (vr 16 0), some (vi (wr (i + 1)))] [] (fs) (up3 (up3 (up3 (up3 I 20 s 3 (-1)) 20 s 4 (-1)) 20 s 5 (-1)) 20 s 6 (-1)) (up3 C 18 0 (Int.toNat i) (some (20, s))) (n + 1) (c + 1) (z + 8) out))) ∧ (¬ (i < 40) → (Rf (Sum.inl none) fs I C n c z out))) : Rn 119 51 [some (vr 16 0), some (vi i)] [] (fs) I C n c z out :=
  (Rn.iload_n (pc2 := 52) rfl rfl rfl (Rn.bipush (pc2 := 54) rfl rfl (Rn.ic_ge (pc2 := 57) rfl rfl (fun q6 => (Rn.aload_n (pc2 := 58) rfl rfl rfl (Rn.getR (pc2 := 61) (q := (some (18, 0))) rfl rfl rfl hC0 rfl (Rn.iload_n (pc2 := 62) rfl rfl rfl (Rn.new (pc2 := 65) (f := 20) (i := s) (n2 := (n + 1)) (L := 8) rfl rfl hn0 rfl rfl rfl rfl (Rn.dupR (pc2 := 66) rfl rfl (Rn.ispe (as := []) (r := [vr 20 s, vi i, vr 18 0]) (ls2 := [some (vr 20 s)]) (f := 20) (i := s) rfl rfl rfl rfl rfl rfl rfl rfl (Rn.aload_n (pc2 := 1) rfl rfl rfl (Rn.oinit (pc2 := 4) rfl rfl rfl rfl (Rn.aload_n (pc2 := 5) rfl rfl rfl (Rn.iconst (pc2 := 6) rfl rfl (Rn.putI (pc2 := 9) rfl rfl rfl rfl rfl (Rn.aload_n (pc2 := 10) rfl rfl rfl (Rn.iconst (pc2 := 11) rfl rfl (Rn.putI (pc2 := 14) rfl rfl rfl rfl rfl (Rn.aload_n (pc2 := 15) rfl rfl rfl (Rn.iconst (pc2 := 16) rfl rfl (Rn.putI (pc2 := 19) rfl rfl rfl rfl rfl (Rn.aload_n (pc2 := 20) rfl rfl rfl (Rn.iconst (pc2 := 21) rfl rfl (Rn.putI (pc2 := 24) rfl rfl rfl rfl rfl (Rn.vret rfl (Rf.nn (pc2 := 69) rfl (Rn.aast (pc2 := 70) (L := 40) rfl rfl rfl rfl (h.1 q6).1 rfl (Rn.iinc (pc2 := 73) (ls2 := [some (vr 16 0), some (vi (wr (i + 1)))]) rfl rfl rfl rfl (Rn.goto rfl (h.1 q6).2)))))))))))))))))))))))))) (fun q6 => (Rn.vret rfl (h.2 q6))))))

theorem z0_34 {fs : List fr} {I : IT} {C : CT} {c z : Nat} {out : oP}  (h : Rn 77 24 [some (vr 21 0), some (vi 0)] [] ((0, 42, [some (vr 0 0)], [vr 21 0, vr 0 0]) :: fs) I (up3 (up3 (up3 C 0 0 2 (some (16, 0))) 21 0 2 (some (22, 0))) 21 0 3 (some (23, 0))) 159 (((c + 1) + 1) + 1) (((z + 4) + Int.toNat 6) + Int.toNat 40) out) : Rn 0 34 [some (vr 0 0)] [vr 16 0, vr 0 0] (fs) I C 156 c z out :=
  (Rn.putR (pc2 := 37) rfl rfl rfl rfl (Rn.aload_n (pc2 := 38) rfl rfl rfl (Rn.new (pc2 := 41) (f := 21) (i := 0) (n2 := 157) (L := 4) rfl rfl rfl rfl rfl rfl rfl (Rn.dupR (pc2 := 42) rfl rfl (Rn.ispe (as := []) (r := [vr 21 0, vr 0 0]) (ls2 := [some (vr 21 0), none]) (f := 21) (i := 0) rfl rfl rfl rfl rfl rfl rfl rfl (Rn.aload_n (pc2 := 1) rfl rfl rfl (Rn.oinit (pc2 := 4) rfl rfl rfl rfl (Rn.aload_n (pc2 := 5) rfl rfl rfl (Rn.bipush (pc2 := 7) rfl rfl (Rn.anew (pc2 := 10) (f := 22) (i := 0) (n2 := 158) rfl rfl rfl rfl rfl rfl (Rn.putR (pc2 := 13) rfl rfl rfl rfl (Rn.aload_n (pc2 := 14) rfl rfl rfl (Rn.bipush (pc2 := 16) rfl rfl (Rn.anew (pc2 := 19) (f := 23) (i := 0) (n2 := 159) rfl rfl rfl rfl rfl rfl (Rn.putR (pc2 := 22) rfl rfl rfl rfl (Rn.iconst (pc2 := 23) rfl rfl (Rn.istore_n (pc2 := 24) (ls2 := [some (vr 21 0), some (vi 0)]) rfl rfl rfl h)))))))))))))))))

theorem z77_24 {fs : List fr} {I : IT} {C : CT} {n c z : Nat} {out : oP} {i : Int} {s : Nat} (hC0 : C 21 0 2 = (some (22, 0))) (hn0 : idOf n = (24, s)) (hn1 : idOf (n + 1) = (25, s)) (h : ((i < 6) → ((0 ≤ i ∧ i < 6) ∧ (Rn 77 24 [some (vr 21 0), some (vi (wr (i + 1)))] [] (fs) I (up3 (up3 C 24 s 1 (some (25, s))) 22 0 (Int.toNat i) (some (24, s))) ((n + 1) + 1) ((c + 1) + 1) ((z + 2) + Int.toNat 3) out))) ∧ (¬ (i < 6) → (Rn 77 51 [some (vr 21 0), some (vi 0)] [] (fs) I C n c z out))) : Rn 77 24 [some (vr 21 0), some (vi i)] [] (fs) I C n c z out :=
  (Rn.iload_n (pc2 := 25) rfl rfl rfl (Rn.bipush (pc2 := 27) rfl rfl (Rn.ic_ge (pc2 := 30) rfl rfl (fun q7 => (Rn.aload_n (pc2 := 31) rfl rfl rfl (Rn.getR (pc2 := 34) (q := (some (22, 0))) rfl rfl rfl hC0 rfl (Rn.iload_n (pc2 := 35) rfl rfl rfl (Rn.new (pc2 := 38) (f := 24) (i := s) (n2 := (n + 1)) (L := 2) rfl rfl hn0 rfl rfl rfl rfl (Rn.dupR (pc2 := 39) rfl rfl (Rn.ispe (as := []) (r := [vr 24 s, vi i, vr 22 0]) (ls2 := [some (vr 24 s)]) (f := 24) (i := s) rfl rfl rfl rfl rfl rfl rfl rfl (Rn.aload_n (pc2 := 1) rfl rfl rfl (Rn.oinit (pc2 := 4) rfl rfl rfl rfl (Rn.aload_n (pc2 := 5) rfl rfl rfl (Rn.iconst (pc2 := 6) rfl rfl (Rn.newa (pc2 := 8) (f := 25) (i := s) (n2 := ((n + 1) + 1)) rfl hn1 rfl rfl rfl rfl (Rn.putR (pc2 := 11) rfl rfl rfl rfl (Rn.vret rfl (Rf.nn (pc2 := 42) rfl (Rn.aast (pc2 := 43) (L := 6) rfl rfl rfl rfl (h.1 q7).1 rfl (Rn.iinc (pc2 := 46) (ls2 := [some (vr 21 0), some (vi (wr (i + 1)))]) rfl rfl rfl rfl (Rn.goto rfl (h.1 q7).2)))))))))))))))))) (fun q7 => (Rn.iconst (pc2 := 50) rfl rfl (Rn.istore_n (pc2 := 51) (ls2 := [some (vr 21 0), some (vi 0)]) rfl rfl rfl (h.2 q7)))))))

theorem z77_51 {fs : List fr} {I : IT} {C : CT} {n c z : Nat} {out : oP} {i : Int} {s : Nat} (hC0 : C 21 0 3 = (some (23, 0))) (hn0 : idOf n = (26, s)) (h : ((i < 40) → ((0 ≤ i ∧ i < 40) ∧ (Rn 77 51 [some (vr 21 0), some (vi (wr (i + 1)))] [] (fs) (up3 (up3 I 26 s 5 (-1)) 26 s 6 (-1)) (up3 C 23 0 (Int.toNat i) (some (26, s))) (n + 1) (c + 1) (z + 9) out))) ∧ (¬ (i < 40) → (Rf (Sum.inl none) fs I C n c z out))) : Rn 77 51 [some (vr 21 0), some (vi i)] [] (fs) I C n c z out :=
  (Rn.iload_n (pc2 := 52) rfl rfl rfl (Rn.bipush (pc2 := 54) rfl rfl (Rn.ic_ge (pc2 := 57) rfl rfl (fun q8 => (Rn.aload_n (pc2 := 58) rfl rfl rfl (Rn.getR (pc2 := 61) (q := (some (23, 0))) rfl rfl rfl hC0 rfl (Rn.iload_n (pc2 := 62) rfl rfl rfl (Rn.new (pc2 := 65) (f := 26) (i := s) (n2 := (n + 1)) (L := 9) rfl rfl hn0 rfl rfl rfl rfl (Rn.dupR (pc2 := 66) rfl rfl (Rn.ispe (as := []) (r := [vr 26 s, vi i, vr 23 0]) (ls2 := [some (vr 26 s)]) (f := 26) (i := s) rfl rfl rfl rfl rfl rfl rfl rfl (Rn.aload_n (pc2 := 1) rfl rfl rfl (Rn.oinit (pc2 := 4) rfl rfl rfl rfl (Rn.aload_n (pc2 := 5) rfl rfl rfl (Rn.iconst (pc2 := 6) rfl rfl (Rn.putI (pc2 := 9) rfl rfl rfl rfl rfl (Rn.aload_n (pc2 := 10) rfl rfl rfl (Rn.iconst (pc2 := 11) rfl rfl (Rn.putI (pc2 := 14) rfl rfl rfl rfl rfl (Rn.vret rfl (Rf.nn (pc2 := 69) rfl (Rn.aast (pc2 := 70) (L := 40) rfl rfl rfl rfl (h.1 q8).1 rfl (Rn.iinc (pc2 := 73) (ls2 := [some (vr 21 0), some (vi (wr (i + 1)))]) rfl rfl rfl rfl (Rn.goto rfl (h.1 q8).2)))))))))))))))))))) (fun q8 => (Rn.vret rfl (h.2 q8))))))

theorem z0_45 {fs : List fr} {I : IT} {C : CT} {c z : Nat} {out : oP}  (h : Rf (Sum.inl none) fs (up3 I 0 0 4 0) (up3 C 0 0 3 (some (21, 0))) 211 c z out) : Rn 0 45 [some (vr 0 0)] [vr 21 0, vr 0 0] (fs) I C 211 c z out :=
  (Rn.putR (pc2 := 48) rfl rfl rfl rfl (Rn.aload_n (pc2 := 49) rfl rfl rfl (Rn.iconst (pc2 := 50) rfl rfl (Rn.putI (pc2 := 53) rfl rfl rfl rfl rfl (Rn.vret rfl h)))))

theorem z91_65x {fs : List fr} {I : IT} {C : CT} {n c z : Nat} {out : oP}  (h : Rn 91 118 [some (vr 3 0), some (vi 0)] [] (fs) I C n c z out) : Rn 91 65 [some (vr 3 0), some (vi 12)] [] (fs) I C n c z out :=
  (Rn.iload_n (pc2 := 66) rfl rfl rfl (Rn.bipush (pc2 := 68) rfl rfl (Rn.ic_ge (pc2 := 71) rfl rfl (fun q => absurd q (show (¬ ((12 : Int) < 12)) by decide)) (fun _ =>  (Rn.iconst (pc2 := 117) rfl rfl (Rn.istore_n (pc2 := 118) (ls2 := [some (vr 3 0), some (vi 0)]) rfl rfl rfl h))))))

theorem z119_24x {fs : List fr} {I : IT} {C : CT} {n c z : Nat} {out : oP}  (h : Rn 119 51 [some (vr 16 0), some (vi 0)] [] (fs) I C n c z out) : Rn 119 24 [some (vr 16 0), some (vi 6)] [] (fs) I C n c z out :=
  (Rn.iload_n (pc2 := 25) rfl rfl rfl (Rn.bipush (pc2 := 27) rfl rfl (Rn.ic_ge (pc2 := 30) rfl rfl (fun q => absurd q (show (¬ ((6 : Int) < 6)) by decide)) (fun _ =>  (Rn.iconst (pc2 := 50) rfl rfl (Rn.istore_n (pc2 := 51) (ls2 := [some (vr 16 0), some (vi 0)]) rfl rfl rfl h))))))

theorem z119_51x {fs : List fr} {I : IT} {C : CT} {n c z : Nat} {out : oP}  (h : Rf (Sum.inl none) fs I C n c z out) : Rn 119 51 [some (vr 16 0), some (vi 40)] [] (fs) I C n c z out :=
  (Rn.iload_n (pc2 := 52) rfl rfl rfl (Rn.bipush (pc2 := 54) rfl rfl (Rn.ic_ge (pc2 := 57) rfl rfl (fun q => absurd q (show (¬ ((40 : Int) < 40)) by decide)) (fun _ =>  (Rn.vret rfl h)))))

theorem z77_24x {fs : List fr} {I : IT} {C : CT} {n c z : Nat} {out : oP}  (h : Rn 77 51 [some (vr 21 0), some (vi 0)] [] (fs) I C n c z out) : Rn 77 24 [some (vr 21 0), some (vi 6)] [] (fs) I C n c z out :=
  (Rn.iload_n (pc2 := 25) rfl rfl rfl (Rn.bipush (pc2 := 27) rfl rfl (Rn.ic_ge (pc2 := 30) rfl rfl (fun q => absurd q (show (¬ ((6 : Int) < 6)) by decide)) (fun _ =>  (Rn.iconst (pc2 := 50) rfl rfl (Rn.istore_n (pc2 := 51) (ls2 := [some (vr 21 0), some (vi 0)]) rfl rfl rfl h))))))

theorem z77_51x {fs : List fr} {I : IT} {C : CT} {n c z : Nat} {out : oP}  (h : Rf (Sum.inl none) fs I C n c z out) : Rn 77 51 [some (vr 21 0), some (vi 40)] [] (fs) I C n c z out :=
  (Rn.iload_n (pc2 := 52) rfl rfl rfl (Rn.bipush (pc2 := 54) rfl rfl (Rn.ic_ge (pc2 := 57) rfl rfl (fun q => absurd q (show (¬ ((40 : Int) < 40)) by decide)) (fun _ =>  (Rn.vret rfl h)))))

def Dn (C : CT) (f i j : Nat) : Prop := C f i j = C9 f i j
def Le (C C2 : CT) : Prop := ∀ f i j, Dn C f i j → Dn C2 f i j
theorem Le.refl {C : CT} : Le C C := fun _ _ _ h => h
theorem Le.trans {C C2 C3 : CT} (h : Le C C2) (g : Le C2 C3) : Le C C3 := fun f i j q => g f i j (h f i j q)
theorem Dn.up {C : CT} {f i j : Nat} {v : Option (Nat × Nat)} (h : v = C9 f i j) : Dn (up3 C f i j v) f i j := (up3_eq : up3 C f i j v f i j = v).trans h
theorem Dn.keep {C : CT} {f i j a b d : Nat} {v : Option (Nat × Nat)} (g : Dn C a b d) (h : v = C9 f i j) : Dn (up3 C f i j v) a b d := by
  by_cases q : a = f ∧ b = i ∧ d = j
  · obtain ⟨rfl, rfl, rfl⟩ := q; exact Dn.up h
  · exact (up3_no q).trans g
theorem Le.up {C C2 : CT} {f i j : Nat} {v : Option (Nat × Nat)} (g : Le C C2) (h : v = C9 f i j) : Le C (up3 C2 f i j v) := fun a b d q => (g a b d q).keep h
theorem cs50 {s : Nat} : (some (14, s) : Option (Nat × Nat)) = C9 5 0 s := by
  show _ = some (14, 12 * 0 + s)
  rw [Nat.mul_zero, Nat.zero_add]
theorem z_f2 {fs : List fr} {C : CT} {n c z : Nat} {out : oP} {v : Int} {I0 : IT} (h : ∀ I2, (∀ f a b, ¬ f = 2 → I2 f a b = I0 f a b) → (∀ x, x < 144 → I2 2 0 x = v) → Rf (Sum.inl none) fs I2 C n c z out) : ∀ (d k : Nat) (I : IT), k + d = 144 → (∀ f a b, ¬ f = 2 → I f a b = I0 f a b) → (∀ x, x < k → I 2 0 x = v) → Rn 161 5 [some (vr 2 0), some (vi v), some (vi (k : Int)), some (vi 144)] [] fs I C n c z out := by
  intro d
  induction d with
  | zero =>
    intro k I hk h1 h2
    exact zf2_5 ⟨fun g => by omega, fun _ => h I h1 (fun x hx => h2 x (by omega))⟩
  | succ d ih =>
    intro k I hk h1 h2
    refine zf2_5 ⟨fun g => ⟨by omega, ?_⟩, fun g => by omega⟩
    rw [Int.toNat_natCast, wrI (by omega) (by omega), nS]
    refine ih (k + 1) _ (by omega) (fun f a b q => (up3_nf q).trans (h1 f a b q)) (fun x hx => ?_)
    rw [up3_at]
    by_cases e : x = k
    · rw [if_pos e]
    · rw [if_neg e]; exact h2 x (by omega)
theorem z_f15 {fs : List fr} {C : CT} {n c z : Nat} {out : oP} {v : Int} {s : Nat} {I0 : IT} (h : ∀ I2, (∀ f a b, ¬ (f = 15 ∧ a = s) → I2 f a b = I0 f a b) → (∀ x, x < 30 → I2 15 s x = v) → Rf (Sum.inl none) fs I2 C n c z out) : ∀ (d k : Nat) (I : IT), k + d = 30 → (∀ f a b, ¬ (f = 15 ∧ a = s) → I f a b = I0 f a b) → (∀ x, x < k → I 15 s x = v) → Rn 161 5 [some (vr 15 s), some (vi v), some (vi (k : Int)), some (vi 30)] [] fs I C n c z out := by
  intro d
  induction d with
  | zero =>
    intro k I hk h1 h2
    exact zf15_5 ⟨fun g => by omega, fun _ => h I h1 (fun x hx => h2 x (by omega))⟩
  | succ d ih =>
    intro k I hk h1 h2
    refine zf15_5 ⟨fun g => ⟨by omega, ?_⟩, fun g => by omega⟩
    rw [Int.toNat_natCast, wrI (by omega) (by omega), nS]
    refine ih (k + 1) _ (by omega) (fun f a b q => (up3_no (fun y => q ⟨y.1, y.2.1⟩)).trans (h1 f a b q)) (fun x hx => ?_)
    rw [up3_at]
    by_cases e : x = k
    · rw [if_pos e]
    · rw [if_neg e]; exact h2 x (by omega)
theorem id_dir : ∀ s, s < 12 → idOf (11 + 8 * s) = (10, s) ∧ idOf (11 + 8 * s + 1) = (11, s) ∧ idOf (11 + 8 * s + 1 + 1) = (12, s) ∧ idOf (11 + 8 * s + 1 + 1 + 1) = (13, s) ∧ idOf (11 + 8 * s + 1 + 1 + 1 + 1) = (14, s) ∧ idOf (11 + 8 * s + 1 + 1 + 1 + 1 + 1) = (15, s) ∧ idOf (11 + 8 * s + 1 + 1 + 1 + 1 + 1 + 1) = (14, 12 + s) ∧ idOf (11 + 8 * s + 1 + 1 + 1 + 1 + 1 + 1 + 1) = (15, 12 + s) := by decide +kernel
theorem id_car : ∀ s, s < 6 → idOf (110 + s) = (19, s) := by decide +kernel
theorem id_cal : ∀ s, s < 40 → idOf (116 + s) = (20, s) := by decide +kernel
theorem id_loc : ∀ s, s < 6 → idOf (159 + 2 * s) = (24, s) ∧ idOf (159 + 2 * s + 1) = (25, s) := by decide +kernel
theorem id_par : ∀ s, s < 40 → idOf (171 + s) = (26, s) := by decide +kernel
def dD (C : CT) (t : Nat) : Prop := Dn C 4 0 t ∧ Dn C 5 0 t ∧ Dn C 5 1 t ∧ Dn C 10 t 1 ∧ Dn C 10 t 2 ∧ Dn C 10 t 3 ∧ Dn C 14 t 1 ∧ Dn C 14 (12 + t) 1
theorem dD.le {C C2 : CT} {t : Nat} (h : dD C t) (l : Le C C2) : dD C2 t := by
  obtain ⟨a, b, d, e, f, g, i, j⟩ := h
  exact ⟨l _ _ _ a, l _ _ _ b, l _ _ _ d, l _ _ _ e, l _ _ _ f, l _ _ _ g, l _ _ _ i, l _ _ _ j⟩
def iD (I : IT) (t : Nat) : Prop := (I 14 t 0 = -1 ∧ ∀ x, x < 30 → I 15 t x = -1) ∧ (I 14 (12 + t) 0 = -1 ∧ ∀ x, x < 30 → I 15 (12 + t) x = -1)
theorem z_dir {fs : List fr} {out : oP} : ∀ (d s : Nat) (I : IT) (C : CT) (c z : Nat), s + d = 12 → C 3 0 1 = some (4, 0) → C 3 0 2 = some (5, 0) → C 3 0 3 = some (5, 1) → (∀ I2 C2 c2 z2, c2 ≤ c + 8 * d → z2 ≤ z + 100 * d → Le C C2 → (∀ t, s ≤ t → t < 12 → dD C2 t) → (∀ f a b, ¬ ((f = 14 ∨ f = 15) ∧ ((s ≤ a ∧ a < 12) ∨ (12 + s ≤ a ∧ a < 24))) → I2 f a b = I f a b) → (∀ t, s ≤ t → t < 12 → iD I2 t) → Rn 91 118 [some (vr 3 0), some (vi 0)] [] fs I2 C2 107 c2 z2 out) → Rn 91 65 [some (vr 3 0), some (vi (s : Int))] [] fs I C (11 + 8 * s) c z out := by
  intro d
  induction d with
  | zero =>
    intro s I C c z hs h1 h2 h3 h
    obtain rfl : s = 12 := by omega
    exact z91_65x (h I C c z (by omega) (by omega) Le.refl (fun t q1 q2 => by omega) (fun _ _ _ _ => rfl) (fun t q1 q2 => by omega))
  | succ d ih =>
    intro s I C c z hs h1 h2 h3 h
    obtain ⟨n0, n1, n2, n3, n4, n5, n6, n7⟩ := id_dir s (by omega)
    refine z91_65 h1 h2 n0 n1 n2 n3 n4 n5 ⟨fun _ => ⟨by omega, ?_⟩, fun g => by omega⟩
    rw [Int.toNat_natCast]
    refine zf15_0 (z_f15 (s := s) (v := -1) (I0 := up3 I 14 s 0 (-1)) (fun I2 a1 a2 => ?_) 30 0 _ (by omega) (fun _ _ _ _ => rfl) (fun x hx => by omega))
    refine Rf.nn (pc2 := 25) rfl (z72_25a (t := 12 + s) h3 n6 n7 ⟨by omega, ?_⟩)
    rw [Int.toNat_natCast]
    refine zf15_0 (z_f15 (s := 12 + s) (v := -1) (I0 := up3 I2 14 (12 + s) 0 (-1)) (fun I3 b1 b2 => ?_) 30 0 _ (by omega) (fun _ _ _ _ => rfl) (fun x hx => by omega))
    refine Rf.nn (pc2 := 25) rfl (z72_25b ⟨by omega, ?_⟩)
    rw [Int.toNat_natCast, wrI (by omega) (by omega), nS, show 11 + 8 * s + 1 + 1 + 1 + 1 + 1 + 1 + 1 + 1 = 11 + 8 * (s + 1) by omega]
    generalize hC9 : up3 (up3 (up3 (up3 (up3 (up3 (up3 (up3 C 10 s 1 (some (11, s))) 10 s 2 (some (12, s))) 10 s 3 (some (13, s))) 4 0 s (some (10, s))) 14 s 1 (some (15, s))) 5 0 s (some (14, s))) 14 (12 + s) 1 (some (15, 12 + s))) 5 1 s (some (14, 12 + s)) = C1
    have l1 : Le C C1 := by
      rw [← hC9]
      (repeat (first | refine Le.up ?_ rfl | refine Le.up ?_ cs50))
      exact Le.refl
    have dn : dD C1 s := by
      rw [← hC9]
      refine ⟨?_, ?_, ?_, ?_, ?_, ?_, ?_, ?_⟩
      all_goals (repeat (first | exact Dn.up rfl | exact Dn.up cs50 | refine Dn.keep ?_ rfl | refine Dn.keep ?_ cs50))
    have k1 : C1 3 0 1 = some (4, 0) := by rw [← hC9]; exact h1
    have k2 : C1 3 0 2 = some (5, 0) := by rw [← hC9]; exact h2
    have k3 : C1 3 0 3 = some (5, 1) := by rw [← hC9]; exact h3
    have eI : ∀ f a b, ¬ ((f = 14 ∨ f = 15) ∧ (a = s ∨ a = 12 + s)) → I3 f a b = I f a b := fun f a b q => by
      rw [b1 f a b (by omega), up3_no (by omega), a1 f a b (by omega), up3_no (by omega)]
    have is : iD I3 s := by
      refine ⟨⟨?_, fun x hx => ?_⟩, ⟨?_, fun x hx => ?_⟩⟩
      · rw [b1 14 s 0 (by omega), up3_no (by omega), a1 14 s 0 (by omega), up3_eq]
      · rw [b1 15 s x (by omega), up3_no (by omega), a2 x hx]
      · rw [b1 14 (12 + s) 0 (by omega), up3_eq]
      · exact b2 x hx
    refine ih (s + 1) I3 C1 _ _ (by omega) k1 k2 k3 (fun I4 C4 c4 z4 q1 q2 q3 q4 q5 q6 => h I4 C4 c4 z4 ?_ ?_ (l1.trans q3) (fun t g1 g2 => ?_) (fun f a b g => ?_) (fun t g1 g2 => ?_))
    · omega
    · have e3 : Int.toNat 4 = 4 := rfl
      have e4 : Int.toNat 30 = 30 := rfl
      omega
    · by_cases e : t = s
      · subst e; exact dn.le q3
      · exact q4 t (by omega) g2
    · rw [q5 f a b (by omega), eI f a b (by omega)]
    · by_cases e : t = s
      · subst e
        obtain ⟨⟨u1, u2⟩, u3, u4⟩ := is
        refine ⟨⟨?_, fun x hx => ?_⟩, ⟨?_, fun x hx => ?_⟩⟩
        · rw [q5 _ _ _ (by omega)]; exact u1
        · rw [q5 _ _ _ (by omega)]; exact u2 x hx
        · rw [q5 _ _ _ (by omega)]; exact u3
        · rw [q5 _ _ _ (by omega)]; exact u4 x hx
      · exact q6 t (by omega) g2
theorem z_grp {fs : List fr} {C : CT} {n c z : Nat} {out : oP} (hC : C 3 0 4 = some (6, 0)) {I0 : IT} (h : ∀ I2, (∀ f a b, ¬ f = 6 → I2 f a b = I0 f a b) → (∀ x : Nat, x < 30 → I2 6 0 x = (x : Int)) → Rf (Sum.inl none) fs I2 C n c z out) : ∀ (d k : Nat) (I : IT), k + d = 30 → (∀ f a b, ¬ f = 6 → I f a b = I0 f a b) → (∀ x : Nat, x < k → I 6 0 x = (x : Int)) → Rn 91 118 [some (vr 3 0), some (vi (k : Int))] [] fs I C n c z out := by
  intro d
  induction d with
  | zero =>
    intro k I hk h1 h2
    exact z91_118 hC ⟨fun g => by omega, fun _ => h I h1 (fun x hx => h2 x (by omega))⟩
  | succ d ih =>
    intro k I hk h1 h2
    refine z91_118 hC ⟨fun g => ⟨by omega, ?_⟩, fun g => by omega⟩
    rw [Int.toNat_natCast, wrI (by omega) (by omega), nS]
    refine ih (k + 1) _ (by omega) (fun f a b q => (up3_nf q).trans (h1 f a b q)) (fun x hx => ?_)
    rw [up3_at]
    by_cases e : x = k
    · rw [if_pos e, e]
    · rw [if_neg e]; exact h2 x (by omega)
def farv (k : Nat) : Int := if k / 12 = k % 12 then 0 else 1000000
theorem z_cars {fs : List fr} {I : IT} {out : oP} : ∀ (d s : Nat) (C : CT) (c z : Nat), s + d = 6 → C 16 0 2 = some (17, 0) → C 16 0 3 = some (18, 0) → (∀ C2 c2 z2, c2 ≤ c + d → z2 ≤ z + 3 * d → Le C C2 → C2 16 0 3 = some (18, 0) → (∀ t, s ≤ t → t < 6 → Dn C2 17 0 t) → Rn 119 51 [some (vr 16 0), some (vi 0)] [] fs I C2 116 c2 z2 out) → Rn 119 24 [some (vr 16 0), some (vi (s : Int))] [] fs I C (110 + s) c z out := by
  intro d
  induction d with
  | zero =>
    intro s C c z hs h1 h2 h
    obtain rfl : s = 6 := by omega
    exact z119_24x (h C c z (by omega) (by omega) Le.refl h2 (fun t q1 q2 => by omega))
  | succ d ih =>
    intro s C c z hs h1 h2 h
    refine z119_24 h1 (id_car s (by omega)) ⟨fun _ => ⟨by omega, ?_⟩, fun g => by omega⟩
    rw [Int.toNat_natCast, wrI (by omega) (by omega), nS]
    refine ih (s + 1) _ _ _ (by omega) h1 h2 (fun C4 c4 z4 q1 q2 q3 q4 q5 => h C4 c4 z4 (by omega) (by omega) ((Le.refl.up rfl).trans q3) q4 (fun t g1 g2 => ?_))
    by_cases e : t = s
    · subst e; exact q3 _ _ _ (Dn.up rfl)
    · exact q5 t (by omega) g2
def iC (I : IT) (q : Nat) : Prop := ∀ j, I 20 q j = if 3 ≤ j ∧ j ≤ 6 then -1 else 0
theorem z_cals {fs : List fr} {out : oP} {I0 : IT} : ∀ (d s : Nat) (I : IT) (C : CT) (c z : Nat), s + d = 40 → (∀ f a b, ¬ f = 20 → I f a b = I0 f a b) → (∀ q, q < s → iC I q) → (∀ q j, s ≤ q → I 20 q j = 0) → C 16 0 3 = some (18, 0) → (∀ I2 C2 c2 z2, c2 ≤ c + d → z2 ≤ z + 8 * d → (∀ f a b, ¬ f = 20 → I2 f a b = I0 f a b) → (∀ q, q < 40 → iC I2 q) → Le C C2 → (∀ t, s ≤ t → t < 40 → Dn C2 18 0 t) → Rf (Sum.inl none) fs I2 C2 156 c2 z2 out) → Rn 119 51 [some (vr 16 0), some (vi (s : Int))] [] fs I C (116 + s) c z out := by
  intro d
  induction d with
  | zero =>
    intro s I C c z hs a1 a2 a3 h2 h
    obtain rfl : s = 40 := by omega
    exact z119_51x (h I C c z (by omega) (by omega) a1 a2 Le.refl (fun t q1 q2 => by omega))
  | succ d ih =>
    intro s I C c z hs a1 a2 a3 h2 h
    refine z119_51 h2 (id_cal s (by omega)) ⟨fun _ => ⟨by omega, ?_⟩, fun g => by omega⟩
    rw [Int.toNat_natCast, wrI (by omega) (by omega), nS]
    refine ih (s + 1) _ _ _ _ (by omega) (fun f a b q => by rw [up3_nf q, up3_nf q, up3_nf q, up3_nf q]; exact a1 f a b q) (fun q hq j => ?_) (fun q j hq => ?_) h2 (fun I4 C4 c4 z4 q1 q2 q3 q4 q5 q6 => h I4 C4 c4 z4 (by omega) (by omega) q3 q4 ((Le.refl.up rfl).trans q5) (fun t g1 g2 => ?_))
    · rw [up3_ati, up3_ati, up3_ati, up3_ati]
      by_cases e : q = s
      · rw [a3 q j (by omega)]
        (repeat' split) <;> omega
      · rw [if_neg (fun y => e y.1), if_neg (fun y => e y.1), if_neg (fun y => e y.1), if_neg (fun y => e y.1)]
        exact a2 q (by omega) j
    · rw [up3_no (by omega), up3_no (by omega), up3_no (by omega), up3_no (by omega)]; exact a3 q j (by omega)
    · by_cases e : t = s
      · subst e; exact q5 _ _ _ (Dn.up rfl)
      · exact q6 t (by omega) g2
theorem z_locs {fs : List fr} {I : IT} {out : oP} : ∀ (d s : Nat) (C : CT) (c z : Nat), s + d = 6 → C 21 0 2 = some (22, 0) → C 21 0 3 = some (23, 0) → (∀ C2 c2 z2, c2 ≤ c + 2 * d → z2 ≤ z + 5 * d → Le C C2 → C2 21 0 3 = some (23, 0) → (∀ t, s ≤ t → t < 6 → Dn C2 22 0 t ∧ Dn C2 24 t 1) → Rn 77 51 [some (vr 21 0), some (vi 0)] [] fs I C2 171 c2 z2 out) → Rn 77 24 [some (vr 21 0), some (vi (s : Int))] [] fs I C (159 + 2 * s) c z out := by
  intro d
  induction d with
  | zero =>
    intro s C c z hs h1 h2 h
    obtain rfl : s = 6 := by omega
    exact z77_24x (h C c z (by omega) (by omega) Le.refl h2 (fun t q1 q2 => by omega))
  | succ d ih =>
    intro s C c z hs h1 h2 h
    obtain ⟨n0, n1⟩ := id_loc s (by omega)
    refine z77_24 h1 n0 n1 ⟨fun _ => ⟨by omega, ?_⟩, fun g => by omega⟩
    rw [Int.toNat_natCast, wrI (by omega) (by omega), nS, show 159 + 2 * s + 1 + 1 = 159 + 2 * (s + 1) by omega]
    refine ih (s + 1) _ _ _ (by omega) h1 h2 (fun C4 c4 z4 q1 q2 q3 q4 q5 => h C4 c4 z4 (by omega) ?_ (((Le.refl.up rfl).up rfl).trans q3) q4 (fun t g1 g2 => ?_))
    · have e3 : Int.toNat 3 = 3 := rfl
      omega
    · by_cases e : t = s
      · subst e; exact ⟨q3 _ _ _ (Dn.up rfl), q3 _ _ _ ((Dn.up rfl).keep rfl)⟩
      · exact q5 t (by omega) g2
def iP (I : IT) (q : Nat) : Prop := ∀ j, I 26 q j = if 5 ≤ j ∧ j ≤ 6 then -1 else 0
theorem z_pars {fs : List fr} {out : oP} {I0 : IT} : ∀ (d s : Nat) (I : IT) (C : CT) (c z : Nat), s + d = 40 → (∀ f a b, ¬ f = 26 → I f a b = I0 f a b) → (∀ q, q < s → iP I q) → (∀ q j, s ≤ q → I 26 q j = 0) → C 21 0 3 = some (23, 0) → (∀ I2 C2 c2 z2, c2 ≤ c + d → z2 ≤ z + 9 * d → (∀ f a b, ¬ f = 26 → I2 f a b = I0 f a b) → (∀ q, q < 40 → iP I2 q) → Le C C2 → (∀ t, s ≤ t → t < 40 → Dn C2 23 0 t) → Rf (Sum.inl none) fs I2 C2 211 c2 z2 out) → Rn 77 51 [some (vr 21 0), some (vi (s : Int))] [] fs I C (171 + s) c z out := by
  intro d
  induction d with
  | zero =>
    intro s I C c z hs a1 a2 a3 h2 h
    obtain rfl : s = 40 := by omega
    exact z77_51x (h I C c z (by omega) (by omega) a1 a2 Le.refl (fun t q1 q2 => by omega))
  | succ d ih =>
    intro s I C c z hs a1 a2 a3 h2 h
    refine z77_51 h2 (id_par s (by omega)) ⟨fun _ => ⟨by omega, ?_⟩, fun g => by omega⟩
    rw [Int.toNat_natCast, wrI (by omega) (by omega), nS]
    refine ih (s + 1) _ _ _ _ (by omega) (fun f a b q => by rw [up3_nf q, up3_nf q]; exact a1 f a b q) (fun q hq j => ?_) (fun q j hq => ?_) h2 (fun I4 C4 c4 z4 q1 q2 q3 q4 q5 q6 => h I4 C4 c4 z4 (by omega) (by omega) q3 q4 ((Le.refl.up rfl).trans q5) (fun t g1 g2 => ?_))
    · rw [up3_ati, up3_ati]
      by_cases e : q = s
      · rw [a3 q j (by omega)]
        (repeat' split) <;> omega
      · rw [if_neg (fun y => e y.1), if_neg (fun y => e y.1)]
        exact a2 q (by omega) j
    · rw [up3_no (by omega), up3_no (by omega)]; exact a3 q j (by omega)
    · by_cases e : t = s
      · subst e; exact q5 _ _ _ (Dn.up rfl)
      · exact q6 t (by omega) g2


theorem C0_Dn {f i j : Nat} (h : rs f i j = false) : Dn C0 f i j := by
  show (bif rs f i j then none else C9 f i j) = _
  rw [h]; rfl
theorem cn_1 {d : Nat → Nat → Int} {a : Nat} (h : d a a < 1000000) : ∀ n, a < n → 1 ≤ cn d a n := by
  intro n
  induction n with
  | zero => intro g; omega
  | succ n ih =>
    intro g
    have b := cn_in (d := d) (a := a) n
    unfold cn
    by_cases e : a = n
    · subst e; rw [if_pos h]; omega
    · have := ih (by omega)
      split <;> omega
theorem FI_init {I : IT} (h0 : ∀ f i j, ¬ (f = 2 ∨ f = 6 ∨ f = 14 ∨ f = 15 ∨ f = 20 ∨ f = 26 ∨ f = 28 ∨ f = 36 ∨ f = 99) → I f i j = 0) (h2 : ∀ x, x < 144 → I 2 0 x = -1) (h6 : ∀ x : Nat, x < 30 → I 6 0 x = (x : Int)) (hD : ∀ t, t < 12 → iD I t) (h20 : ∀ q, q < 40 → iC I q) (h26 : ∀ q, q < 40 → iP I q) (h28 : ∀ x, x < 144 → I 28 0 x = farv x) (h36 : ∀ x : Nat, x < 30 → I 36 0 x = (x : Int)) : FI I (fun _ => none) := by
  have z : ∀ f i j, (f ≤ 1 ∨ (3 ≤ f ∧ f ≤ 5) ∨ (7 ≤ f ∧ f ≤ 13) ∨ (16 ≤ f ∧ f ≤ 19) ∨ (21 ≤ f ∧ f ≤ 25) ∨ f = 27 ∨ (29 ≤ f ∧ f ≤ 35) ∨ (37 ≤ f ∧ f ≤ 58)) → I f i j = 0 := fun f i j q => h0 f i j (by omega)
  have hnn : nn I = 0 := by show (I 27 0 9).toNat = 0; rw [z 27 0 9 (by omega)]; rfl
  have hd : ∀ a b : Nat, a < 12 → b < 12 → I 28 0 (12 * a + b) = if a = b then 0 else 1000000 := fun a b ha hb => by
    rw [h28 _ (by omega)]
    unfold farv
    rw [show (12 * a + b) / 12 = a by omega, show (12 * a + b) % 12 = b by omega]
  have hd2 : ∀ a b : Nat, a < 12 → b < 12 → dS I a b = if a = b then 0 else 1000000 := hd
  have vs : VS I (I 27 0 1) := fun s hs => by
    rw [z 29 0 s (by omega)]
    exact ⟨by omega, by omega, fun j hj => by omega, fun i j _ hj => by omega⟩
  have vn : VN I (I 27 0 0) := by
    unfold VN
    rw [z 27 0 9 (by omega), z 27 0 4 (by omega)]
    exact ⟨by omega, by omega, by omega, by omega, fun k hk => by omega⟩
  refine ⟨⟨?_, ⟨?_, ?_, fun a b ha hb => ?_⟩, ⟨?_, ?_, fun s hs => ?_, fun x hx => ?_, fun s hs => ?_, vs, vn, ?_, ?_⟩, ⟨?_, ?_, fun k hk => ?_, fun q hq => ?_⟩, ⟨?_, ?_, fun k hk => ?_, fun p hp => ?_⟩⟩, ⟨⟨?_, ?_, fun a b ha hb => ?_, fun a b ha hb => ?_, ?_⟩, ⟨⟨fun a ha => ?_, fun a b ha hb => ?_, fun a b ha hb => ?_, fun a b e ha hb he => ?_, fun a b ha hb q => ?_⟩, ?_, ?_, ?_, fun a b ha hb _ => hd a b ha hb⟩, vs, vn⟩⟩
  · rw [z 0 0 4 (by omega), z 27 0 0 (by omega)]
  · rw [z 1 0 0 (by omega), z 27 0 1 (by omega)]
  · rw [z 1 0 1 (by omega), z 27 0 2 (by omega)]
  · rw [h2 _ (by omega), z 27 0 1 (by omega), if_neg (by omega)]
  · rw [z 3 0 0 (by omega), z 27 0 4 (by omega)]
  · rw [z 3 0 5 (by omega), z 27 0 9 (by omega)]
  · rw [hnn, show 12 * 0 + s = s by omega]
    exact ⟨(hD s hs).1.1, fun x hx => (hD s hs).1.2 x hx⟩
  · rw [h6 x hx, h36 x hx]
  · rw [z 10 s 0 (by omega), z 29 0 s (by omega)]
    exact ⟨rfl, fun j hj => by omega⟩
  · intro k hk; rw [z 27 0 9 (by omega)] at hk; omega
  · intro s hs x hx; rw [hnn]; rfl
  · rw [z 16 0 0 (by omega), z 27 0 14 (by omega)]
  · rw [z 16 0 1 (by omega), z 27 0 18 (by omega)]
  · rw [z 19 k 2 (by omega), z 38 0 k (by omega), z 27 0 14 (by omega)]
    exact ⟨rfl, fun g => by omega, fun _ => rfl⟩
  · rw [z 27 0 18 (by omega)]
    have u := h20 q hq
    refine ⟨fun g => by omega, fun _ => ⟨?_, ?_, ?_, ?_, ?_, ?_⟩⟩
    · rw [u 2, if_neg (by omega)]
    · rw [u 3, if_pos (by omega)]
    · rw [u 4, if_pos (by omega)]
    · rw [u 5, if_pos (by omega)]
    · rw [u 6, if_pos (by omega)]
    · rw [u 7, if_neg (by omega)]
  · rw [z 21 0 0 (by omega), z 27 0 27 (by omega)]
  · rw [z 21 0 1 (by omega), z 27 0 30 (by omega)]
  · rw [z 27 0 27 (by omega)]
    exact ⟨fun g => by omega, fun _ j hj => z 25 k j (by omega)⟩
  · rw [z 27 0 30 (by omega), z 57 0 p (by omega)]
    have u := h26 p hp
    refine ⟨?_, fun g => by omega, fun _ => ⟨?_, ?_, ?_⟩⟩
    · rw [u 7, if_neg (by omega)]
    · rw [u 5, if_pos (by omega)]
    · rw [u 6, if_pos (by omega)]
    · rw [u 8, if_neg (by omega)]
  · unfold VC
    rw [z 27 0 14 (by omega), z 27 0 18 (by omega), z 27 0 1 (by omega)]
    exact ⟨by omega, by omega, by omega, by omega, by omega, by omega, fun k hk => by omega, fun q hq => by omega⟩
  · unfold VD
    have ht := tk_in (S := I) 40
    rw [z 27 0 27 (by omega), z 27 0 30 (by omega), z 27 0 1 (by omega)]
    refine ⟨by omega, by omega, by omega, by omega, by omega, by omega, fun k hk => by omega, fun k hk => ?_, fun p hp => by omega, fun p hp _ => ⟨z 53 0 p (by omega), z 58 0 p (by omega)⟩⟩
    rw [z 49 0 k (by omega)]; omega
  · rw [hd a b ha hb]; split <;> omega
  · rw [hd a b ha hb, hd b a hb ha]
    by_cases e : a = b
    · rw [if_pos e, if_pos e.symm]
    · rw [if_neg e, if_neg (fun y => e y.symm)]
  · rw [z 27 0 0 (by omega)]; omega
  · rw [hd2 a a ha ha, if_pos rfl]
  · rw [hd2 a b ha hb, hd2 b a hb ha]
    by_cases e : a = b
    · rw [if_pos e, if_pos e.symm]
    · rw [if_neg e, if_neg (fun y => e y.symm)]
  · rw [hd2 a b ha hb]; split <;> omega
  · rw [hd2 a b ha hb, hd2 a e ha he, hd2 e b he hb]
    (repeat' split) <;> omega
  · rw [hd2 a b ha hb] at q ⊢
    have := cn_1 (d := dS I) (a := a) (by rw [hd2 a a ha ha, if_pos rfl]; omega) 12 ha
    by_cases e : a = b
    · rw [if_pos e]; omega
    · rw [if_neg e] at q; omega
  · rw [z 27 0 2 (by omega)]; omega
  · rw [z 27 0 2 (by omega)]; omega
  · rw [z 27 0 0 (by omega)]; omega


def S0 : IT := fun f i j => if f = 28 ∧ i = 0 ∧ j < 144 then farv j else if f = 36 ∧ i = 0 ∧ j < 30 then (j : Int) else 0
/-- a new object: the store of nothing told -/
theorem obj_init {fs : List fr} {c z : Nat} {out : oP} {I0 : IT} (hI0 : ∀ f i j, f < 27 → I0 f i j = 0) (h : ∀ I1 c2 z2, c2 ≤ c + 400 → z2 ≤ z + 9000 → FS I1 (fun _ => none) S0 → (∀ f i j, 59 < f → I1 f i j = I0 f i j) → Rf (Sum.inl none) fs I1 C9 211 c2 z2 out) : Rn 0 0 [some (vr 0 0)] [] fs I0 C0 1 c z out := by
  refine zi_0 (zf2_0 (z_f2 (v := -1) (I0 := I0) (fun I1 a1 a2 => Rf.nn (pc2 := 21) rfl (z113_21 ?_)) 144 0 I0 (by omega) (fun _ _ _ _ => rfl) (fun x hx => by omega)))
  generalize hC1 : up3 (up3 (up3 (up3 (up3 (up3 (up3 (up3 (up3 C0 1 0 2 (some (2, 0))) 0 0 0 (some (1, 0))) 3 0 1 (some (4, 0))) 3 0 2 (some (5, 0))) 3 0 3 (some (5, 1))) 3 0 4 (some (6, 0))) 3 0 6 (some (7, 0))) 3 0 7 (some (8, 0))) 3 0 8 (some (9, 0)) = C1
  have l1 : Le C0 C1 := by
      rw [← hC1]
      (repeat (refine Le.up ?_ rfl))
      exact Le.refl
  have k1 : C1 3 0 1 = some (4, 0) ∧ C1 3 0 2 = some (5, 0) ∧ C1 3 0 3 = some (5, 1) ∧ C1 3 0 4 = some (6, 0) := by rw [← hC1]; exact ⟨rfl, rfl, rfl, rfl⟩
  have d1 : Dn C1 1 0 2 ∧ Dn C1 0 0 0 ∧ Dn C1 3 0 1 ∧ Dn C1 3 0 2 ∧ Dn C1 3 0 3 ∧ Dn C1 3 0 4 ∧ Dn C1 3 0 6 ∧ Dn C1 3 0 7 ∧ Dn C1 3 0 8 := by rw [← hC1]; exact ⟨rfl, rfl, rfl, rfl, rfl, rfl, rfl, rfl, rfl⟩
  refine z_dir 12 0 I1 C1 _ _ (by omega) k1.1 k1.2.1 k1.2.2.1 (fun I2 C2 c2 z2 b1 b2 b3 b4 b5 b6 => ?_)
  have k2 : C2 3 0 4 = some (6, 0) := b3 3 0 4 d1.2.2.2.2.2.1
  refine z_grp k2 (I0 := I2) (fun I3 e1 e2 => Rf.nn (pc2 := 23) rfl (z0_23 ?_)) 30 0 I2 (by omega) (fun _ _ _ _ => rfl) (fun x hx => by omega)
  generalize hC3 : up3 (up3 (up3 C2 0 0 1 (some (3, 0))) 16 0 2 (some (17, 0))) 16 0 3 (some (18, 0)) = C3
  have l3 : Le C2 C3 := by
      rw [← hC3]
      (repeat (refine Le.up ?_ rfl))
      exact Le.refl
  have k3 : C3 16 0 2 = some (17, 0) ∧ C3 16 0 3 = some (18, 0) := by rw [← hC3]; exact ⟨rfl, rfl⟩
  have d3 : Dn C3 0 0 1 ∧ Dn C3 16 0 2 ∧ Dn C3 16 0 3 := by rw [← hC3]; exact ⟨rfl, rfl, rfl⟩
  refine z_cars 6 0 C3 _ _ (by omega) k3.1 k3.2 (fun C4 c4 z4 f1 f2 f3 f4 f5 => ?_)
  have n20 : ∀ q j, I3 20 q j = 0 := fun q j => by rw [e1 20 q j (by omega), b5 20 q j (by omega), a1 20 q j (by omega)]; exact hI0 _ _ _ (by omega)
  refine z_cals (I0 := I3) 40 0 I3 C4 _ _ (by omega) (fun _ _ _ _ => rfl) (fun q hq => by omega) (fun q j _ => n20 q j) f4 (fun I5 C5 c5 z5 g1 g2 g3 g4 g5 g6 => Rf.nn (pc2 := 34) rfl (z0_34 ?_))
  generalize hC6 : up3 (up3 (up3 C5 0 0 2 (some (16, 0))) 21 0 2 (some (22, 0))) 21 0 3 (some (23, 0)) = C6
  have l6 : Le C5 C6 := by
      rw [← hC6]
      (repeat (refine Le.up ?_ rfl))
      exact Le.refl
  have k6 : C6 21 0 2 = some (22, 0) ∧ C6 21 0 3 = some (23, 0) := by rw [← hC6]; exact ⟨rfl, rfl⟩
  have d6 : Dn C6 0 0 2 ∧ Dn C6 21 0 2 ∧ Dn C6 21 0 3 := by rw [← hC6]; exact ⟨rfl, rfl, rfl⟩
  refine z_locs 6 0 C6 _ _ (by omega) k6.1 k6.2 (fun C7 c7 z7 m1 m2 m3 m4 m5 => ?_)
  have n26 : ∀ q j, I5 26 q j = 0 := fun q j => by rw [g3 26 q j (by omega), e1 26 q j (by omega), b5 26 q j (by omega), a1 26 q j (by omega)]; exact hI0 _ _ _ (by omega)
  refine z_pars (I0 := I5) 40 0 I5 C7 _ _ (by omega) (fun _ _ _ _ => rfl) (fun q hq => by omega) (fun q j _ => n26 q j) m4 (fun I8 C8 c8 z8 p1 p2 p3 p4 p5 p6 => Rf.nn (pc2 := 45) rfl (z0_45 ?_))
  generalize hCa : up3 C8 0 0 3 (some (21, 0)) = Ca
  have la : Le C8 Ca := by
      rw [← hCa]
      (repeat (refine Le.up ?_ rfl))
      exact Le.refl
  have da : Dn Ca 0 0 3 := by rw [← hCa]; rfl
  generalize hIb : up3 I8 0 0 4 0 = Ib
  -- the references stand
  have t8 : Le C8 Ca := la
  have t7 : Le C7 Ca := p5.trans t8
  have t6 : Le C6 Ca := m3.trans t7
  have t5 : Le C5 Ca := l6.trans t6
  have t4 : Le C4 Ca := g5.trans t5
  have t3 : Le C3 Ca := f3.trans t4
  have t2 : Le C2 Ca := l3.trans t3
  have t1 : Le C1 Ca := b3.trans t2
  have all : ∀ f i j, Dn Ca f i j := fun f i j => by
    cases hr : rs f i j with
    | false => exact (l1.trans t1) f i j (C0_Dn hr)
    | true =>
      unfold rs at hr
      split at hr <;> (try simp only [Bool.and_eq_true, Bool.or_eq_true, Nat.beq_eq, Nat.ble_eq, or_assoc] at hr)
      · obtain ⟨rfl, hj⟩ := hr
        rcases (show j = 0 ∨ j = 1 ∨ j = 2 ∨ j = 3 by omega) with rfl | rfl | rfl | rfl
        · exact t1 _ _ _ d1.2.1
        · exact t3 _ _ _ d3.1
        · exact t6 _ _ _ d6.1
        · exact da
      · obtain ⟨rfl, rfl⟩ := hr; exact t1 _ _ _ d1.1
      · obtain ⟨rfl, rfl | rfl | rfl | rfl | rfl | rfl | rfl⟩ := hr
        · exact t1 _ _ _ d1.2.2.1
        · exact t1 _ _ _ d1.2.2.2.1
        · exact t1 _ _ _ d1.2.2.2.2.1
        · exact t1 _ _ _ d1.2.2.2.2.2.1
        · exact t1 _ _ _ d1.2.2.2.2.2.2.1
        · exact t1 _ _ _ d1.2.2.2.2.2.2.2.1
        · exact t1 _ _ _ d1.2.2.2.2.2.2.2.2
      · obtain ⟨rfl, hj⟩ := hr; exact t2 _ _ _ (b4 j (by omega) (by omega)).1
      · obtain ⟨hi, hj⟩ := hr
        rcases (show i = 0 ∨ i = 1 by omega) with rfl | rfl
        · exact t2 _ _ _ (b4 j (by omega) (by omega)).2.1
        · exact t2 _ _ _ (b4 j (by omega) (by omega)).2.2.1
      · obtain ⟨hi, rfl | rfl | rfl⟩ := hr
        · exact t2 _ _ _ (b4 i (by omega) (by omega)).2.2.2.1
        · exact t2 _ _ _ (b4 i (by omega) (by omega)).2.2.2.2.1
        · exact t2 _ _ _ (b4 i (by omega) (by omega)).2.2.2.2.2.1
      · obtain ⟨hi, rfl⟩ := hr
        by_cases g : i < 12
        · exact t2 _ _ _ (b4 i (by omega) g).2.2.2.2.2.2.1
        · have w := (b4 (i - 12) (by omega) (by omega)).2.2.2.2.2.2.2
          rw [show 12 + (i - 12) = i by omega] at w
          exact t2 _ _ _ w
      · obtain ⟨rfl, rfl | rfl⟩ := hr
        · exact t3 _ _ _ d3.2.1
        · exact t3 _ _ _ d3.2.2
      · obtain ⟨rfl, hj⟩ := hr; exact t4 _ _ _ (f5 j (by omega) (by omega))
      · obtain ⟨rfl, hj⟩ := hr; exact t5 _ _ _ (g6 j (by omega) (by omega))
      · obtain ⟨rfl, rfl | rfl⟩ := hr
        · exact t6 _ _ _ d6.2.1
        · exact t6 _ _ _ d6.2.2
      · obtain ⟨rfl, hj⟩ := hr; exact t7 _ _ _ (m5 j (by omega) (by omega)).1
      · obtain ⟨rfl, hj⟩ := hr; exact t8 _ _ _ (p6 j (by omega) (by omega))
      · obtain ⟨hi, rfl⟩ := hr; exact t7 _ _ _ (m5 i (by omega) (by omega)).2
      · cases hr
  rw [show Ca = C9 from by funext f i j; exact all f i j]
  have sI : ∀ f i j, ¬ (f = 0 ∧ i = 0 ∧ j = 4) → Ib f i j = I8 f i j := fun f i j q => by rw [← hIb, up3_no q]
  have s4 : Ib 0 0 4 = 0 := by rw [← hIb, up3_eq]
  have u : ∀ f i j, ¬ (f = 2 ∨ f = 6 ∨ f = 14 ∨ f = 15 ∨ f = 20 ∨ f = 26) → ¬ (f = 0 ∧ i = 0 ∧ j = 4) → Ib f i j = I0 f i j := fun f i j y1 y2 => by
    rw [sI f i j y2, p3 f i j (by omega), g3 f i j (by omega), e1 f i j (by omega), b5 f i j (by omega), a1 f i j (by omega)]
  obtain ⟨Iz, hz⟩ : ∃ Iz : IT, Iz = fun f i j => if f < 27 then Ib f i j else S0 f i j := ⟨_, rfl⟩
  have Fi : FI Iz (fun _ => none) := by
    have lo : ∀ f i j, f < 27 → Iz f i j = Ib f i j := fun f i j q => by rw [hz]; exact if_pos q
    have hi : ∀ f i j, ¬ f < 27 → Iz f i j = S0 f i j := fun f i j q => by rw [hz]; exact if_neg q
    refine FI_init (fun f i j y => ?_) (fun x hx => ?_) (fun x hx => ?_) (fun t ht => ?_) (fun q hq => ?_) (fun q hq => ?_) (fun x hx => ?_) (fun x hx => ?_)
    · by_cases g : f < 27
      · rw [lo _ _ _ g]
        by_cases e : f = 0 ∧ i = 0 ∧ j = 4
        · obtain ⟨rfl, rfl, rfl⟩ := e; exact s4
        · rw [u f i j (by omega) e]; exact hI0 f i j g
      · rw [hi _ _ _ g]
        unfold S0
        rw [if_neg (by omega), if_neg (by omega)]
    · rw [lo 2 0 x (by omega), sI 2 0 x (by omega), p3 2 0 x (by omega), g3 2 0 x (by omega), e1 2 0 x (by omega), b5 2 0 x (by omega)]; exact a2 x hx
    · rw [lo 6 0 x (by omega), sI 6 0 x (by omega), p3 6 0 x (by omega), g3 6 0 x (by omega)]; exact e2 x hx
    · have w : ∀ f a b, f = 14 ∨ f = 15 → Iz f a b = I2 f a b := fun f a b y => by rw [lo f a b (by omega), sI f a b (by omega), p3 f a b (by omega), g3 f a b (by omega), e1 f a b (by omega)]
      obtain ⟨⟨v1, v2⟩, v3, v4⟩ := b6 t (by omega) ht
      exact ⟨⟨by rw [w _ _ _ (by omega)]; exact v1, fun x hx => by rw [w _ _ _ (by omega)]; exact v2 x hx⟩, by rw [w _ _ _ (by omega)]; exact v3, fun x hx => by rw [w _ _ _ (by omega)]; exact v4 x hx⟩
    · intro j
      rw [lo 20 q j (by omega), sI 20 q j (by omega), p3 20 q j (by omega)]; exact g4 q hq j
    · intro j
      rw [lo 26 q j (by omega), sI 26 q j (by omega)]; exact p4 q hq j
    · rw [hi _ _ _ (by omega)]; unfold S0; rw [if_pos ⟨rfl, rfl, hx⟩]
    · rw [hi _ _ _ (by omega)]; unfold S0; rw [if_neg (by omega), if_pos ⟨rfl, rfl, hx⟩]
  have ag : agM Iz S0 := fun f i j q1 q2 => by
    rw [hz]
    show S0 f i j = if f < 27 then Ib f i j else S0 f i j
    rw [if_neg (by omega)]
  refine h Ib _ _ ?_ ?_ ⟨Sm_I (fun f i j q => by
    rw [hz]
    show Ib f i j = if f < 27 then Ib f i j else S0 f i j
    rw [if_pos q]) (Sm_M ag Fi.1), VI_M ag Fi.2⟩ (fun f i j q => u f i j (by omega) (by omega))
  · omega
  · have w1 : Int.toNat 1 = 1 := rfl
    have w3 : Int.toNat 3 = 3 := rfl
    have w4 : Int.toNat 4 = 4 := rfl
    have w6 : Int.toNat 6 = 6 := rfl
    have w12 : Int.toNat 12 = 12 := rfl
    have w18 : Int.toNat 18 = 18 := rfl
    have w30 : Int.toNat 30 = 30 := rfl
    have w40 : Int.toNat 40 = 40 := rfl
    have w48 : Int.toNat 48 = 48 := rfl
    have w100 : Int.toNat 100 = 100 := rfl
    have w144 : Int.toNat 144 = 144 := rfl
    omega


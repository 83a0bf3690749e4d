/-! The five objects' runs, one behind the other, and the law from its entry. -/
theorem zz9 {x a b z d : Nat} (h : x ≤ a + (z + b)) (e : a + b ≤ d) : x ≤ z + d := by omega
theorem zz8 {x a b w z d : Nat} (h : x ≤ a + (z + b) + w) (e : a + b + w ≤ d) : x ≤ z + d := by omega
theorem w167_0 {fs : List fr} {I : IT} {C : CT} {c z : Nat} {out : oP}  (h : Rn 0 0 [some (vr 0 0)] [] ((167, 4, [none, none], [vr 0 0]) :: fs) I C 1 (c + 1) (z + 5) out) : Rn 167 0 [none, none] [] (fs) I C 0 c z out :=
  (Rn.new (pc2 := 3) (f := 0) (i := 0) (n2 := 1) (L := 5) rfl rfl rfl rfl rfl rfl rfl (Rn.dupR (pc2 := 4) rfl rfl (Rn.ispe (as := []) (r := [vr 0 0]) (ls2 := [some (vr 0 0)]) (f := 0) (i := 0) rfl rfl rfl rfl rfl rfl rfl rfl h)))

theorem w167_7 {fs : List fr} {I : IT} {cc : Nat → Option Nat} {n c z : Nat} {out : oP} {b0 : Option av} {b1 : Option av} (h : Rn 167 8 [some (vr 0 0), b1] [] (fs) I (Cs cc) n c z out) : Rn 167 7 [b0, b1] [vr 0 0] (fs) I (Cs cc) n c z out :=
  (Rn.astore_n (pc2 := 8) (ls2 := [some (vr 0 0), b1]) rfl rfl rfl h)

theorem w170_0 {fs : List fr} {I : IT} {C : CT} {c z : Nat} {out : oP}  (h : Rn 0 0 [some (vr 0 0)] [] ((170, 4, [none, none], [vr 0 0]) :: fs) I C 1 (c + 1) (z + 5) out) : Rn 170 0 [none, none] [] (fs) I C 0 c z out :=
  (Rn.new (pc2 := 3) (f := 0) (i := 0) (n2 := 1) (L := 5) rfl rfl rfl rfl rfl rfl rfl (Rn.dupR (pc2 := 4) rfl rfl (Rn.ispe (as := []) (r := [vr 0 0]) (ls2 := [some (vr 0 0)]) (f := 0) (i := 0) rfl rfl rfl rfl rfl rfl rfl rfl h)))

theorem w170_7 {fs : List fr} {I : IT} {cc : Nat → Option Nat} {n c z : Nat} {out : oP} {b0 : Option av} {b1 : Option av} (h : Rn 170 8 [some (vr 0 0), b1] [] (fs) I (Cs cc) n c z out) : Rn 170 7 [b0, b1] [vr 0 0] (fs) I (Cs cc) n c z out :=
  (Rn.astore_n (pc2 := 8) (ls2 := [some (vr 0 0), b1]) rfl rfl rfl h)

theorem w171_0 {fs : List fr} {I : IT} {C : CT} {c z : Nat} {out : oP}  (h : Rn 0 0 [some (vr 0 0)] [] ((171, 4, [none, none], [vr 0 0]) :: fs) I C 1 (c + 1) (z + 5) out) : Rn 171 0 [none, none] [] (fs) I C 0 c z out :=
  (Rn.new (pc2 := 3) (f := 0) (i := 0) (n2 := 1) (L := 5) rfl rfl rfl rfl rfl rfl rfl (Rn.dupR (pc2 := 4) rfl rfl (Rn.ispe (as := []) (r := [vr 0 0]) (ls2 := [some (vr 0 0)]) (f := 0) (i := 0) rfl rfl rfl rfl rfl rfl rfl rfl h)))

theorem w171_7 {fs : List fr} {I : IT} {cc : Nat → Option Nat} {n c z : Nat} {out : oP} {b0 : Option av} {b1 : Option av} (h : Rn 171 8 [some (vr 0 0), b1] [] (fs) I (Cs cc) n c z out) : Rn 171 7 [b0, b1] [vr 0 0] (fs) I (Cs cc) n c z out :=
  (Rn.astore_n (pc2 := 8) (ls2 := [some (vr 0 0), b1]) rfl rfl rfl h)

theorem w172_0 {fs : List fr} {I : IT} {C : CT} {c z : Nat} {out : oP}  (h : Rn 0 0 [some (vr 0 0)] [] ((172, 4, [none, none, none], [vr 0 0]) :: fs) I C 1 (c + 1) (z + 5) out) : Rn 172 0 [none, none, none] [] (fs) I C 0 c z out :=
  (Rn.new (pc2 := 3) (f := 0) (i := 0) (n2 := 1) (L := 5) rfl rfl rfl rfl rfl rfl rfl (Rn.dupR (pc2 := 4) rfl rfl (Rn.ispe (as := []) (r := [vr 0 0]) (ls2 := [some (vr 0 0)]) (f := 0) (i := 0) rfl rfl rfl rfl rfl rfl rfl rfl h)))

theorem w172_7 {fs : List fr} {I : IT} {cc : Nat → Option Nat} {n c z : Nat} {out : oP} {b0 : Option av} {b1 : Option av} {b2 : Option av} (h : Rn 172 8 [some (vr 0 0), b1, b2] [] (fs) I (Cs cc) n c z out) : Rn 172 7 [b0, b1, b2] [vr 0 0] (fs) I (Cs cc) n c z out :=
  (Rn.astore_n (pc2 := 8) (ls2 := [some (vr 0 0), b1, b2]) rfl rfl rfl h)

theorem w171_e {fs : List fr} {I : IT} {cc : Nat → Option Nat} {n c z : Nat} {out : oP}  (h : Rf (Sum.inl (some (vi 1))) fs I (Cs cc) n c z out) : Rn 171 239 [some (vr 0 0), some (vi 2)] [] (fs) I (Cs cc) n c z out :=
  (Rn.iconst (pc2 := 240) rfl rfl (Rn.goto rfl (Rn.zret rfl rfl (by decide) h)))

theorem ok_m171 {I : IT} {fs : List fr} {c z : Nat} {out : oP} (hI : ∀ f i j, f < 27 → I f i j = 0) (g : ∀ I1 C1 n1 c1 z1, J9 I1 I → c1 ≤ c + 456 → z1 ≤ z + 12036 → Rf (Sum.inl (some (vi 1))) fs I1 C1 n1 c1 z1 out) : Rn 171 0 [none, none] [] fs I C0 0 c z out := by
  refine w171_0 (obj_init hI (fun I1 c2 z2 b1 b2 F hI1 => Rf.nn (pc2 := 7) rfl (w171_7 ?_)))
  have h : Ln I 171 8 [some (vr 0 0), none] [] fs S0 (c + 402) (z + 9010) out := by
    rw [show c + 402 = 0 + (c + 402) from (Nat.zero_add _).symm, show z + 9010 = 6 * 0 + (z + 9010) from (Nat.zero_add _).symm]
    refine sg_lost ?_
    exact fun I2 cc c' z' F2 hJ h1 h2 => w171_e (g I2 (Cs cc) 211 c' z' hJ (zz9 h1 (by decide)) (zz9 h2 (by decide)))
  exact h I1 _ c2 z2 F (fun i j => hI1 99 i j (by omega)) (by omega) (by omega)
theorem w170_r {fs : List fr} {I : IT} {cc : Nat → Option Nat} {n c z : Nat} {out : oP}  (h : Rn 163 0 [some (vr 0 0), some (vi 4), some (vi 3), some (vi 5), some (vi 0), some (vi 0), none, none, none, none, none, none, none, none, none, none, none, none, none] [] ((170, 677, [some (vr 0 0), some (vi 4)], []) :: fs) I (Cs cc) n c z out) : Rn 170 671 [some (vr 0 0), some (vi 4)] [] (fs) I (Cs cc) n c z out :=
  (Rn.aload_n (pc2 := 672) rfl rfl rfl (Rn.iconst (pc2 := 673) rfl rfl (Rn.iconst (pc2 := 674) rfl rfl (Rn.iconst (pc2 := 675) rfl rfl (Rn.iconst (pc2 := 676) rfl rfl (Rn.iconst (pc2 := 677) rfl rfl (Rn.ista (as := [vr 0 0, vi 4, vi 3, vi 5, vi 0, vi 0]) (r := []) (ls2 := [some (vr 0 0), some (vi 4), some (vi 3), some (vi 5), some (vi 0), some (vi 0), none, none, none, none, none, none, none, none, none, none, none, none, none]) rfl rfl rfl rfl rfl rfl rfl h)))))))

theorem w170_e {fs : List fr} {I : IT} {cc : Nat → Option Nat} {n c z : Nat} {out : oP}  (h : Rf (Sum.inl (some (vi 1))) fs I (Cs cc) n c z out) : Rn 170 680 [some (vr 0 0), some (vi 4)] [vi 1] (fs) I (Cs cc) n c z out :=
  (Rn.iz_eq (pc2 := 683) rfl rfl (fun q => absurd q (show (¬ ((1 : Int) = 0)) by decide)) (fun _ =>  (Rn.iconst (pc2 := 684) rfl rfl (Rn.goto rfl (Rn.zret rfl rfl (by decide) h)))))

theorem ok_m170 {I : IT} {fs : List fr} {c z : Nat} {out : oP} (hI : ∀ f i j, f < 27 → I f i j = 0) (g : ∀ I1 C1 n1 c1 z1, J9 I1 I → c1 ≤ c + 853 → z1 ≤ z + 14418 → Rf (Sum.inl (some (vi 1))) fs I1 C1 n1 c1 z1 out) : Rn 170 0 [none, none] [] fs I C0 0 c z out := by
  refine w170_0 (obj_init hI (fun I1 c2 z2 b1 b2 F hI1 => Rf.nn (pc2 := 7) rfl (w170_7 ?_)))
  have h : Ln I 170 8 [some (vr 0 0), none] [] fs S0 (c + 402) (z + 9010) out := by
    rw [show c + 402 = 0 + (c + 402) from (Nat.zero_add _).symm, show z + 9010 = 6 * 0 + (z + 9010) from (Nat.zero_add _).symm]
    refine sg_names ?_
    refine Ln.vi (fun V I cc c' z' F hJ h1 h2 => w170_r (REF (p := 4) (k1 := 3) (k2 := 5) (k3 := 0) (k4 := 0) (by decide +kernel) (by decide +kernel) (by decide +kernel) (by decide +kernel) (by decide +kernel) V (Lf.sm (pc2 := 680) rfl ?_) I cc c' z' F hJ h1 h2))
    exact fun I2 cc c' z' F2 hJ h1 h2 => w170_e (g I2 (Cs cc) 211 c' z' hJ (zz8 h1 (by decide)) (zz8 h2 (by decide)))
  exact h I1 _ c2 z2 F (fun i j => hI1 99 i j (by omega)) (by omega) (by omega)
theorem w172_r {fs : List fr} {I : IT} {cc : Nat → Option Nat} {n c z : Nat} {out : oP}  (h : Rn 163 0 [some (vr 0 0), some (vi 12), some (vi 6), some (vi 40), some (vi 6), some (vi 40), none, none, none, none, none, none, none, none, none, none, none, none, none] [] ((172, 660, [some (vr 0 0), some (vi 462), some (vi 34)], []) :: fs) I (Cs cc) n c z out) : Rn 172 649 [some (vr 0 0), some (vi 462), some (vi 34)] [] (fs) I (Cs cc) n c z out :=
  (Rn.aload_n (pc2 := 650) rfl rfl rfl (Rn.bipush (pc2 := 652) rfl rfl (Rn.bipush (pc2 := 654) rfl rfl (Rn.bipush (pc2 := 656) rfl rfl (Rn.bipush (pc2 := 658) rfl rfl (Rn.bipush (pc2 := 660) rfl rfl (Rn.ista (as := [vr 0 0, vi 12, vi 6, vi 40, vi 6, vi 40]) (r := []) (ls2 := [some (vr 0 0), some (vi 12), some (vi 6), some (vi 40), some (vi 6), some (vi 40), none, none, none, none, none, none, none, none, none, none, none, none, none]) rfl rfl rfl rfl rfl rfl rfl h)))))))

theorem w172_e {fs : List fr} {I : IT} {cc : Nat → Option Nat} {n c z : Nat} {out : oP}  (h : Rf (Sum.inl (some (vi 1))) fs I (Cs cc) n c z out) : Rn 172 663 [some (vr 0 0), some (vi 462), some (vi 34)] [vi 1] (fs) I (Cs cc) n c z out :=
  (Rn.iz_eq (pc2 := 666) rfl rfl (fun q => absurd q (show (¬ ((1 : Int) = 0)) by decide)) (fun _ =>  (Rn.iconst (pc2 := 667) rfl rfl (Rn.goto rfl (Rn.zret rfl rfl (by decide) h)))))

theorem ok_m172 {I : IT} {fs : List fr} {c z : Nat} {out : oP} (hI : ∀ f i j, f < 27 → I f i j = 0) (g : ∀ I1 C1 n1 c1 z1, J9 I1 I → c1 ≤ c + 1049 → z1 ≤ z + 15594 → Rf (Sum.inl (some (vi 1))) fs I1 C1 n1 c1 z1 out) : Rn 172 0 [none, none, none] [] fs I C0 0 c z out := by
  refine w172_0 (obj_init hI (fun I1 c2 z2 b1 b2 F hI1 => Rf.nn (pc2 := 7) rfl (w172_7 ?_)))
  have h : Ln I 172 8 [some (vr 0 0), none, none] [] fs S0 (c + 402) (z + 9010) out := by
    rw [show c + 402 = 0 + (c + 402) from (Nat.zero_add _).symm, show z + 9010 = 6 * 0 + (z + 9010) from (Nat.zero_add _).symm]
    refine sg_most ?_
    refine Ln.vi (fun V I cc c' z' F hJ h1 h2 => w172_r (REF (p := 12) (k1 := 6) (k2 := 40) (k3 := 6) (k4 := 40) (by decide +kernel) (by decide +kernel) (by decide +kernel) (by decide +kernel) (by decide +kernel) V (Lf.sm (pc2 := 663) rfl ?_) I cc c' z' F hJ h1 h2))
    exact fun I2 cc c' z' F2 hJ h1 h2 => w172_e (g I2 (Cs cc) 211 c' z' hJ (zz8 h1 (by decide)) (zz8 h2 (by decide)))
  exact h I1 _ c2 z2 F (fun i j => hI1 99 i j (by omega)) (by omega) (by omega)
theorem w167_a {fs : List fr} {I : IT} {cc : Nat → Option Nat} {n c z : Nat} {out : oP} {b1 : Option av} (h : Rn 163 0 [some (vr 0 0), some (vi 0), some (vi 0), some (vi 0), some (vi 0), some (vi 0), none, none, none, none, none, none, none, none, none, none, none, none, none] [] ((167, 14, [some (vr 0 0), b1], []) :: fs) I (Cs cc) n c z out) : Rn 167 8 [some (vr 0 0), b1] [] (fs) I (Cs cc) n c z out :=
  (Rn.aload_n (pc2 := 9) rfl rfl rfl (Rn.iconst (pc2 := 10) rfl rfl (Rn.iconst (pc2 := 11) rfl rfl (Rn.iconst (pc2 := 12) rfl rfl (Rn.iconst (pc2 := 13) rfl rfl (Rn.iconst (pc2 := 14) rfl rfl (Rn.ista (as := [vr 0 0, vi 0, vi 0, vi 0, vi 0, vi 0]) (r := []) (ls2 := [some (vr 0 0), some (vi 0), some (vi 0), some (vi 0), some (vi 0), some (vi 0), none, none, none, none, none, none, none, none, none, none, none, none, none]) rfl rfl rfl rfl rfl rfl rfl h)))))))

theorem w167_b {fs : List fr} {I : IT} {cc : Nat → Option Nat} {n c z : Nat} {out : oP}  (h : Rn 163 0 [some (vr 0 0), some (vi 4), some (vi 0), some (vi 0), some (vi 0), some (vi 0), none, none, none, none, none, none, none, none, none, none, none, none, none] [] ((167, 512, [some (vr 0 0), some (vi 4)], []) :: fs) I (Cs cc) n c z out) : Rn 167 506 [some (vr 0 0), some (vi 4)] [] (fs) I (Cs cc) n c z out :=
  (Rn.aload_n (pc2 := 507) rfl rfl rfl (Rn.iconst (pc2 := 508) rfl rfl (Rn.iconst (pc2 := 509) rfl rfl (Rn.iconst (pc2 := 510) rfl rfl (Rn.iconst (pc2 := 511) rfl rfl (Rn.iconst (pc2 := 512) rfl rfl (Rn.ista (as := [vr 0 0, vi 4, vi 0, vi 0, vi 0, vi 0]) (r := []) (ls2 := [some (vr 0 0), some (vi 4), some (vi 0), some (vi 0), some (vi 0), some (vi 0), none, none, none, none, none, none, none, none, none, none, none, none, none]) rfl rfl rfl rfl rfl rfl rfl h)))))))

theorem w167_c {fs : List fr} {I : IT} {cc : Nat → Option Nat} {n c z : Nat} {out : oP}  (h : Rn 168 0 [some (vr 0 0)] [] ((167, 521, [some (vr 0 0), some (vi 4)], []) :: fs) I (Cs cc) n c z out) : Rn 167 520 [some (vr 0 0), some (vi 4)] [] (fs) I (Cs cc) n c z out :=
  (Rn.aload_n (pc2 := 521) rfl rfl rfl (Rn.ista (as := [vr 0 0]) (r := []) (ls2 := [some (vr 0 0)]) rfl rfl rfl rfl rfl rfl rfl h))

theorem w168_r {fs : List fr} {I : IT} {cc : Nat → Option Nat} {n c z : Nat} {out : oP}  (h : Rn 163 0 [some (vr 0 0), some (vi 4), some (vi 2), some (vi 5), some (vi 0), some (vi 0), none, none, none, none, none, none, none, none, none, none, none, none, none] [] ((168, 593, [some (vr 0 0)], []) :: fs) I (Cs cc) n c z out) : Rn 168 587 [some (vr 0 0)] [] (fs) I (Cs cc) n c z out :=
  (Rn.aload_n (pc2 := 588) rfl rfl rfl (Rn.iconst (pc2 := 589) rfl rfl (Rn.iconst (pc2 := 590) rfl rfl (Rn.iconst (pc2 := 591) rfl rfl (Rn.iconst (pc2 := 592) rfl rfl (Rn.iconst (pc2 := 593) rfl rfl (Rn.ista (as := [vr 0 0, vi 4, vi 2, vi 5, vi 0, vi 0]) (r := []) (ls2 := [some (vr 0 0), some (vi 4), some (vi 2), some (vi 5), some (vi 0), some (vi 0), none, none, none, none, none, none, none, none, none, none, none, none, none]) rfl rfl rfl rfl rfl rfl rfl h)))))))

theorem w168_p {fs : List fr} {I : IT} {cc : Nat → Option Nat} {n c z : Nat} {out : oP}  (h : Rn 169 0 [some (vr 0 0)] [] ((168, 602, [some (vr 0 0)], []) :: fs) I (Cs cc) n c z out) : Rn 168 601 [some (vr 0 0)] [] (fs) I (Cs cc) n c z out :=
  (Rn.aload_n (pc2 := 602) rfl rfl rfl (Rn.ista (as := [vr 0 0]) (r := []) (ls2 := [some (vr 0 0)]) rfl rfl rfl rfl rfl rfl rfl h))

theorem w169_r {fs : List fr} {I : IT} {cc : Nat → Option Nat} {n c z : Nat} {out : oP}  (h : Rn 163 0 [some (vr 0 0), some (vi 4), some (vi 2), some (vi 5), some (vi 2), some (vi 6), none, none, none, none, none, none, none, none, none, none, none, none, none] [] ((169, 665, [some (vr 0 0)], []) :: fs) I (Cs cc) n c z out) : Rn 169 658 [some (vr 0 0)] [] (fs) I (Cs cc) n c z out :=
  (Rn.aload_n (pc2 := 659) rfl rfl rfl (Rn.iconst (pc2 := 660) rfl rfl (Rn.iconst (pc2 := 661) rfl rfl (Rn.iconst (pc2 := 662) rfl rfl (Rn.iconst (pc2 := 663) rfl rfl (Rn.bipush (pc2 := 665) rfl rfl (Rn.ista (as := [vr 0 0, vi 4, vi 2, vi 5, vi 2, vi 6]) (r := []) (ls2 := [some (vr 0 0), some (vi 4), some (vi 2), some (vi 5), some (vi 2), some (vi 6), none, none, none, none, none, none, none, none, none, none, none, none, none]) rfl rfl rfl rfl rfl rfl rfl h)))))))

theorem w169_e {fs : List fr} {I : IT} {cc : Nat → Option Nat} {n c z : Nat} {out : oP}  (h : Rf (Sum.inl (some (vi 1))) fs I (Cs cc) n c z out) : Rn 169 668 [some (vr 0 0)] [vi 1] (fs) I (Cs cc) n c z out :=
  (Rn.iz_eq (pc2 := 671) rfl rfl (fun q => absurd q (show (¬ ((1 : Int) = 0)) by decide)) (fun _ =>  (Rn.iconst (pc2 := 672) rfl rfl (Rn.goto rfl (Rn.zret rfl rfl (by decide) h)))))

theorem w168_e {fs : List fr} {I : IT} {cc : Nat → Option Nat} {n c z : Nat} {out : oP}  (h : Rf (Sum.inl (some (vi 1))) fs I (Cs cc) n c z out) : Rn 168 605 [some (vr 0 0)] [vi 1] (fs) I (Cs cc) n c z out :=
  (Rn.zret rfl rfl (by decide) h)

theorem w167_d {fs : List fr} {I : IT} {cc : Nat → Option Nat} {n c z : Nat} {out : oP}  (h : Rn 167 527 [some (vr 0 0), some (vi 4)] [] (fs) I (Cs cc) n c z out) : Rn 167 524 [some (vr 0 0), some (vi 4)] [vi 1] (fs) I (Cs cc) n c z out :=
  (Rn.iz_eq (pc2 := 527) rfl rfl (fun q => absurd q (show (¬ ((1 : Int) = 0)) by decide)) (fun _ =>  h))

theorem w167_530 {fs : List fr} {I : IT} {C : CT} {n c z : Nat} {out : oP} {a : Option av} {b : Option av} (h : Rn 167 533 [a, b] [] (fs) I C n c z out) : Rn 167 530 [a, b] [vi 1] (fs) I C n c z out :=
  (Rn.iz_eq (pc2 := 533) rfl rfl (fun q => absurd q (show (¬ ((1 : Int) = 0)) by decide)) (fun _ =>  h))

theorem w167_536 {fs : List fr} {I : IT} {C : CT} {n c z : Nat} {out : oP} {a : Option av} {b : Option av} (h : Rn 167 539 [a, b] [] (fs) I C n c z out) : Rn 167 536 [a, b] [vi 1] (fs) I C n c z out :=
  (Rn.iz_eq (pc2 := 539) rfl rfl (fun q => absurd q (show (¬ ((1 : Int) = 0)) by decide)) (fun _ =>  h))

theorem w167_542 {fs : List fr} {I : IT} {C : CT} {n c z : Nat} {out : oP} {a : Option av} {b : Option av} (h : Rf (Sum.inl (some (vi 1))) fs I C n c z out) : Rn 167 542 [a, b] [vi 1] (fs) I C n c z out :=
  (Rn.iz_eq (pc2 := 545) rfl rfl (fun q => absurd q (show (¬ ((1 : Int) = 0)) by decide)) (fun _ =>  (Rn.iconst (pc2 := 546) rfl rfl (Rn.goto rfl (Rn.zret rfl rfl (by decide) h)))))

theorem IZ_lo (I : IT) : ∀ f i j, f < 27 → IZ I f i j = 0 := fun f i j h => if_neg (by omega)
theorem J9_IZ {I : IT} : J9 (IZ I) I := fun i j => IZ_99
/-- behind the first object: the three others -/
theorem town_2 {I J : IT} {C : CT} {n : Nat} {fs : List fr} {c z : Nat} {out : oP} {a b : Option av} (hJ : J9 I J) (g : ∀ I1 C1 n1 c1 z1, J9 I1 J → c1 ≤ c + 2358 → z1 ≤ z + 42048 → Rf (Sum.inl (some (vi 1))) fs I1 C1 n1 c1 z1 out) : Rn 167 527 [a, b] [] fs I C n c z out := by
  refine Rn.mstat rfl rfl rfl rfl (ok_m170 (IZ_lo I) (fun I1 C1 n1 c1 z1 j1 b1 b2 => Rf.sm (pc2 := 530) rfl (w167_530 ?_)))
  refine Rn.mstat rfl rfl rfl rfl (ok_m171 (IZ_lo I1) (fun I2 C2 n2 c2 z2 j2 b3 b4 => Rf.sm (pc2 := 536) rfl (w167_536 ?_)))
  refine Rn.mstat rfl rfl rfl rfl (ok_m172 (IZ_lo I2) (fun I3 C3 n3 c3 z3 j3 b5 b6 => Rf.sm (pc2 := 542) rfl (w167_542 ?_)))
  refine g I3 C3 n3 c3 z3 (fun i j => ?_) (by omega) (by omega)
  rw [j3 i j, IZ_99, j2 i j, IZ_99, j1 i j, IZ_99]; exact hJ i j
theorem ok_m167 {I : IT} {fs : List fr} {c z : Nat} {out : oP} (hI : ∀ f i j, f < 27 → I f i j = 0) (g : ∀ I1 C1 n1 c1 z1, J9 I1 I → c1 ≤ c + 4343 → z1 ≤ z + 63258 → Rf (Sum.inl (some (vi 1))) fs I1 C1 n1 c1 z1 out) : Rn 167 0 [none, none] [] fs I C0 0 c z out := by
  refine w167_0 (obj_init hI (fun I1 c2 z2 b1 b2 F hI1 => Rf.nn (pc2 := 7) rfl (w167_7 ?_)))
  have h : Ln I 167 8 [some (vr 0 0), none] [] fs S0 (c + 402) (z + 9010) out := by
    refine Ln.vi (fun V I cc c' z' F hJ h1 h2 => w167_a (REF (p := 0) (k1 := 0) (k2 := 0) (k3 := 0) (k4 := 0) (by decide +kernel) (by decide +kernel) (by decide +kernel) (by decide +kernel) (by decide +kernel) V (Lf.sm (pc2 := 17) rfl ?_) I cc c' z' F hJ h1 h2))
    refine Ln.le (sg_town (c0 := c + 732) (z0 := z + 10990) ?_) (by omega) (by omega)
    refine Ln.vi (fun V I cc c' z' F hJ h1 h2 => w167_b (REF (p := 4) (k1 := 0) (k2 := 0) (k3 := 0) (k4 := 0) (by decide +kernel) (by decide +kernel) (by decide +kernel) (by decide +kernel) (by decide +kernel) V (Lf.sm (pc2 := 515) rfl ?_) I cc c' z' F hJ h1 h2))
    refine Ln.le (sg_town2 (c0 := c + 1062) (z0 := z + 12970) ?_) (by omega) (by omega)
    refine fun I cc c' z' F hJ h1 h2 => w167_c ((show Ln _ 168 0 [some (vr 0 0)] [] ((167, 521, [some (vr 0 0), some (vi 4)], []) :: fs) Sto_11 (58 + (c + 1062)) (6 * 58 + (z + 12970)) out from ?_) I cc c' z' F hJ h1 h2)
    refine sg_calls ?_
    refine Ln.vi (fun V I cc c' z' F hJ h1 h2 => w168_r (REF (p := 4) (k1 := 2) (k2 := 5) (k3 := 0) (k4 := 0) (by decide +kernel) (by decide +kernel) (by decide +kernel) (by decide +kernel) (by decide +kernel) V (Lf.sm (pc2 := 596) rfl ?_) I cc c' z' F hJ h1 h2))
    refine Ln.le (sg_calls2 (c0 := c + 1392) (z0 := z + 14950) ?_) (by omega) (by omega)
    refine fun I cc c' z' F hJ h1 h2 => w168_p ((show Ln _ 169 0 [some (vr 0 0)] [] ((168, 602, [some (vr 0 0)], []) :: (167, 521, [some (vr 0 0), some (vi 4)], []) :: fs) Sto_29 (158 + (c + 1392)) (6 * 158 + (z + 14950)) out from ?_) I cc c' z' F hJ h1 h2)
    refine sg_parcels ?_
    refine Ln.vi (fun V I cc c' z' F hJ h1 h2 => w169_r (REF (p := 4) (k1 := 2) (k2 := 5) (k3 := 2) (k4 := 6) (by decide +kernel) (by decide +kernel) (by decide +kernel) (by decide +kernel) (by decide +kernel) V (Lf.sm (pc2 := 668) rfl ?_) I cc c' z' F hJ h1 h2))
    exact fun I2 cc c' z' F2 hJ h1 h2 => w169_e (Rf.sm (pc2 := 605) rfl (w168_e (Rf.sm (pc2 := 524) rfl (w167_d (town_2 hJ (fun I3 C3 n3 c3 z3 j3 b5 b6 => g I3 C3 n3 c3 z3 j3 (by omega) (by omega)))))))
  exact h I1 _ c2 z2 F (fun i j => hI1 99 i j (by omega)) (by omega) (by omega)
theorem w173_3 {fs : List fr} {I : IT} {C : CT} {n c z : Nat} {out : oP} {b1 : Option av} {b2 : Option av} {b3 : Option av} {b4 : Option av} {b5 : Option av} {b6 : Option av} {b7 : Option av} {b8 : Option av} {b9 : Option av} {b10 : Option av} {b11 : Option av} {b12 : Option av} {b13 : Option av} {b14 : Option av} {b15 : Option av} {b16 : Option av} {b17 : Option av} {b18 : Option av} (h : Rn 173 8 [some (vr 99 0), b1, b2, b3, b4, b5, b6, b7, b8, b9, b10, b11, b12, b13, b14, b15, b16, b17, b18] [] (fs) I C n c z out) : Rn 173 3 [some (vr 99 0), b1, b2, b3, b4, b5, b6, b7, b8, b9, b10, b11, b12, b13, b14, b15, b16, b17, b18] [vi 1] (fs) I C n c z out :=
  (Rn.iz_ne (pc2 := 6) rfl rfl (fun q => absurd q (show (¬ ((1 : Int) = 0)) by decide)) (fun _ =>  h))

theorem w173_11 {fs : List fr} {I : IT} {C : CT} {c z : Nat} {out : oP} {b1 : Option av} {b2 : Option av} {b3 : Option av} {b4 : Option av} {b5 : Option av} {b6 : Option av} {b7 : Option av} {b8 : Option av} {b9 : Option av} {b10 : Option av} {b11 : Option av} {b12 : Option av} {b13 : Option av} {b14 : Option av} {b15 : Option av} {b16 : Option av} {b17 : Option av} {b18 : Option av} (h : Rn 0 0 [some (vr 0 0)] [] ((173, 12, [some (vr 99 0), b1, b2, b3, b4, b5, b6, b7, b8, b9, b10, b11, b12, b13, b14, b15, b16, b17, b18], [vr 0 0]) :: fs) I C 1 c z out) : Rn 173 11 [some (vr 99 0), b1, b2, b3, b4, b5, b6, b7, b8, b9, b10, b11, b12, b13, b14, b15, b16, b17, b18] [vr 0 0] (fs) I C 1 c z out :=
  (Rn.dupR (pc2 := 12) rfl rfl (Rn.ispe (as := []) (r := [vr 0 0]) (ls2 := [some (vr 0 0)]) (f := 0) (i := 0) rfl rfl rfl rfl rfl rfl rfl rfl h))

theorem w173_15 {fs : List fr} {I : IT} {cc : Nat → Option Nat} {n c z : Nat} {out : oP} {b1 : Option av} {b2 : Option av} {b3 : Option av} {b4 : Option av} {b5 : Option av} {b6 : Option av} {b7 : Option av} {b8 : Option av} {b9 : Option av} {b10 : Option av} {b11 : Option av} {b12 : Option av} {b13 : Option av} {b14 : Option av} {b15 : Option av} {b16 : Option av} {b17 : Option av} {b18 : Option av} (h : Rn 173 35 [some (vr 99 0), some (vr 0 0), some (vi 0), some (vi 0), some (vi 0), some (vi 0), some (vi 0), some (vi 0), some (vi 0), b9, b10, b11, b12, b13, b14, b15, b16, b17, b18] [] (fs) I (Cs cc) n c z out) : Rn 173 15 [some (vr 99 0), b1, b2, b3, b4, b5, b6, b7, b8, b9, b10, b11, b12, b13, b14, b15, b16, b17, b18] [vr 0 0] (fs) I (Cs cc) n c z out :=
  (Rn.astore_n (pc2 := 16) (ls2 := [some (vr 99 0), some (vr 0 0), b2, b3, b4, b5, b6, b7, b8, b9, b10, b11, b12, b13, b14, b15, b16, b17, b18]) rfl rfl rfl (Rn.iconst (pc2 := 17) rfl rfl (Rn.istore_n (pc2 := 18) (ls2 := [some (vr 99 0), some (vr 0 0), some (vi 0), b3, b4, b5, b6, b7, b8, b9, b10, b11, b12, b13, b14, b15, b16, b17, b18]) rfl rfl rfl (Rn.iconst (pc2 := 19) rfl rfl (Rn.istore_n (pc2 := 20) (ls2 := [some (vr 99 0), some (vr 0 0), some (vi 0), some (vi 0), b4, b5, b6, b7, b8, b9, b10, b11, b12, b13, b14, b15, b16, b17, b18]) rfl rfl rfl (Rn.iconst (pc2 := 21) rfl rfl (Rn.istore (pc2 := 23) (ls2 := [some (vr 99 0), some (vr 0 0), some (vi 0), some (vi 0), some (vi 0), b5, b6, b7, b8, b9, b10, b11, b12, b13, b14, b15, b16, b17, b18]) rfl rfl rfl (Rn.iconst (pc2 := 24) rfl rfl (Rn.istore (pc2 := 26) (ls2 := [some (vr 99 0), some (vr 0 0), some (vi 0), some (vi 0), some (vi 0), some (vi 0), b6, b7, b8, b9, b10, b11, b12, b13, b14, b15, b16, b17, b18]) rfl rfl rfl (Rn.iconst (pc2 := 27) rfl rfl (Rn.istore (pc2 := 29) (ls2 := [some (vr 99 0), some (vr 0 0), some (vi 0), some (vi 0), some (vi 0), some (vi 0), some (vi 0), b7, b8, b9, b10, b11, b12, b13, b14, b15, b16, b17, b18]) rfl rfl rfl (Rn.iconst (pc2 := 30) rfl rfl (Rn.istore (pc2 := 32) (ls2 := [some (vr 99 0), some (vr 0 0), some (vi 0), some (vi 0), some (vi 0), some (vi 0), some (vi 0), some (vi 0), b8, b9, b10, b11, b12, b13, b14, b15, b16, b17, b18]) rfl rfl rfl (Rn.iconst (pc2 := 33) rfl rfl (Rn.istore (pc2 := 35) (ls2 := [some (vr 99 0), some (vr 0 0), some (vi 0), some (vi 0), some (vi 0), some (vi 0), some (vi 0), some (vi 0), some (vi 0), b9, b10, b11, b12, b13, b14, b15, b16, b17, b18]) rfl rfl rfl h)))))))))))))))

theorem LI_0 (V : VI S0) : LI S0 := ⟨V, fun p hp => by
    have e1 : S0 57 0 p = 0 := rfl
    have e2 : S0 27 0 0 = 0 := rfl
    omega, fun k hk => by
    have e2 : S0 27 0 14 = 0 := rfl
    omega⟩
/-- the law's run: it ends, and answers 1 -/
theorem law_run {I0 : IT} (hI0 : ∀ f i j, ¬ f = 99 → I0 f i j = 0) (hL : 0 ≤ I0 99 1 0) : ∃ k I1 C1 n1 c1 z1, c1 ≤ 33145 ∧ z1 ≤ 242668 ∧ run k 173 0 [some (vr 99 0), none, none, none, none, none, none, none, none, none, none, none, none, none, none, none, none, none, none] [] [] I0 C0 0 0 0 = some (Sum.inl (some (vi 1)), I1, C1, n1, c1, z1) := by
  have r : Rn 173 0 [some (vr 99 0), none, none, none, none, none, none, none, none, none, none, none, none, none, none, none, none, none, none] [] [] I0 C0 0 0 0 (fun u => ∃ I1 C1 n1 c1 z1, c1 ≤ 33145 ∧ z1 ≤ 242668 ∧ u = (Sum.inl (some (vi 1)), I1, C1, n1, c1, z1)) := by
    refine Rn.mstat rfl rfl rfl rfl (ok_m167 (IZ_lo I0) (fun I1 C1 n1 c1 z1 j1 b1 b2 => Rf.sm (pc2 := 3) rfl (w173_3 ?_)))
    refine Rn.mnew rfl rfl rfl rfl (w173_11 (obj_init (IZ_lo I1) (fun I2 c2 z2 b3 b4 F hI2 => Rf.nn (pc2 := 15) rfl (w173_15 ?_))))
    have iv : IV S0 0 0 0 0 0 0 := ⟨LI_0 F.2, rfl, rfl, rfl, rfl, rfl, rfl⟩
    have jj : J9 I2 I0 := fun i j => by rw [hI2 99 i j (by omega), IZ_99, j1 i j, IZ_99]
    exact law_l (J := I0) (c0 := 4343 + 402) (z0 := 63258 + 9010) hL (fun I C c z h1 h2 => ⟨I, C, 211, c, z, by omega, by omega, rfl⟩) 70 0 (by omega) S0 0 0 0 0 0 0 _ _ _ _ _ _ _ _ _ _ iv I2 _ c2 z2 F jj (by omega) (by omega)
  obtain ⟨k0, x, ⟨I1, C1, n1, c1, z1, h1, h2, rfl⟩, hr⟩ := r
  exact ⟨k0, I1, C1, n1, c1, z1, h1, h2, hr k0 (Nat.le_refl _)⟩
